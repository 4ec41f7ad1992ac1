theorem dX3_sum_0 : decode cX3_sum 0 = .ok (.lconst 0, 1) := by decide +kernel
theorem dX3_sum_1 : decode cX3_sum 1 = .ok (.lstore_n 2, 1) := by decide +kernel
theorem dX3_sum_2 : decode cX3_sum 2 = .ok (.iconst 1, 1) := by decide +kernel
theorem dX3_sum_3 : decode cX3_sum 3 = .ok (.istore 4, 2) := by decide +kernel
theorem dX3_sum_5 : decode cX3_sum 5 = .ok (.iload 4, 2) := by decide +kernel
theorem dX3_sum_7 : decode cX3_sum 7 = .ok (.aload_n 0, 1) := by decide +kernel
theorem dX3_sum_8 : decode cX3_sum 8 = .ok (.getfield 119, 3) := by decide +kernel
theorem dX3_sum_11 : decode cX3_sum 11 = .ok (.if_icmp .gt 37, 3) := by decide +kernel
theorem dX3_sum_14 : decode cX3_sum 14 = .ok (.aload_n 0, 1) := by decide +kernel
theorem dX3_sum_15 : decode cX3_sum 15 = .ok (.getfield 29, 3) := by decide +kernel
theorem dX3_sum_18 : decode cX3_sum 18 = .ok (.iload 4, 2) := by decide +kernel
theorem dX3_sum_20 : decode cX3_sum 20 = .ok (.aaload, 1) := by decide +kernel
theorem dX3_sum_21 : decode cX3_sum 21 = .ok (.astore 5, 2) := by decide +kernel
theorem dX3_sum_23 : decode cX3_sum 23 = .ok (.aload_n 1, 1) := by decide +kernel
theorem dX3_sum_24 : decode cX3_sum 24 = .ok (.aload 5, 2) := by decide +kernel
theorem dX3_sum_26 : decode cX3_sum 26 = .ok (.iconst 0, 1) := by decide +kernel
theorem dX3_sum_27 : decode cX3_sum 27 = .ok (.invokevirtual 306, 3) := by decide +kernel
theorem dX3_sum_30 : decode cX3_sum 30 = .ok (.ifCond .eq 12, 3) := by decide +kernel
theorem dX3_sum_33 : decode cX3_sum 33 = .ok (.lload_n 2, 1) := by decide +kernel
theorem dX3_sum_34 : decode cX3_sum 34 = .ok (.aload 5, 2) := by decide +kernel
theorem dX3_sum_36 : decode cX3_sum 36 = .ok (.getfield 310, 3) := by decide +kernel
theorem dX3_sum_39 : decode cX3_sum 39 = .ok (.i2l, 1) := by decide +kernel
theorem dX3_sum_40 : decode cX3_sum 40 = .ok (.ladd, 1) := by decide +kernel
theorem dX3_sum_41 : decode cX3_sum 41 = .ok (.lstore_n 2, 1) := by decide +kernel
theorem dX3_sum_42 : decode cX3_sum 42 = .ok (.iinc 4 1, 3) := by decide +kernel
theorem dX3_sum_45 : decode cX3_sum 45 = .ok (.goto (-40), 3) := by decide +kernel
theorem dX3_sum_48 : decode cX3_sum 48 = .ok (.lload_n 2, 1) := by decide +kernel
theorem dX3_sum_49 : decode cX3_sum 49 = .ok (.lreturn, 1) := by decide +kernel
theorem dX3_greatest_0 : decode cX3_greatest 0 = .ok (.ldc2_w 315, 3) := by decide +kernel
theorem dX3_greatest_3 : decode cX3_greatest 3 = .ok (.lstore_n 2, 1) := by decide +kernel
theorem dX3_greatest_4 : decode cX3_greatest 4 = .ok (.iconst 1, 1) := by decide +kernel
theorem dX3_greatest_5 : decode cX3_greatest 5 = .ok (.istore 4, 2) := by decide +kernel
theorem dX3_greatest_7 : decode cX3_greatest 7 = .ok (.iload 4, 2) := by decide +kernel
theorem dX3_greatest_9 : decode cX3_greatest 9 = .ok (.aload_n 0, 1) := by decide +kernel
theorem dX3_greatest_10 : decode cX3_greatest 10 = .ok (.getfield 119, 3) := by decide +kernel
theorem dX3_greatest_13 : decode cX3_greatest 13 = .ok (.if_icmp .gt 39, 3) := by decide +kernel
theorem dX3_greatest_16 : decode cX3_greatest 16 = .ok (.aload_n 0, 1) := by decide +kernel
theorem dX3_greatest_17 : decode cX3_greatest 17 = .ok (.getfield 29, 3) := by decide +kernel
theorem dX3_greatest_20 : decode cX3_greatest 20 = .ok (.iload 4, 2) := by decide +kernel
theorem dX3_greatest_22 : decode cX3_greatest 22 = .ok (.aaload, 1) := by decide +kernel
theorem dX3_greatest_23 : decode cX3_greatest 23 = .ok (.astore 5, 2) := by decide +kernel
theorem dX3_greatest_25 : decode cX3_greatest 25 = .ok (.aload_n 1, 1) := by decide +kernel
theorem dX3_greatest_26 : decode cX3_greatest 26 = .ok (.aload 5, 2) := by decide +kernel
theorem dX3_greatest_28 : decode cX3_greatest 28 = .ok (.iconst 1, 1) := by decide +kernel
theorem dX3_greatest_29 : decode cX3_greatest 29 = .ok (.invokevirtual 306, 3) := by decide +kernel
theorem dX3_greatest_32 : decode cX3_greatest 32 = .ok (.ifCond .eq 14, 3) := by decide +kernel
theorem dX3_greatest_35 : decode cX3_greatest 35 = .ok (.lload_n 2, 1) := by decide +kernel
theorem dX3_greatest_36 : decode cX3_greatest 36 = .ok (.aload 5, 2) := by decide +kernel
theorem dX3_greatest_38 : decode cX3_greatest 38 = .ok (.getfield 310, 3) := by decide +kernel
theorem dX3_greatest_41 : decode cX3_greatest 41 = .ok (.i2l, 1) := by decide +kernel
theorem dX3_greatest_42 : decode cX3_greatest 42 = .ok (.invokestatic 317, 3) := by decide +kernel
theorem dX3_greatest_45 : decode cX3_greatest 45 = .ok (.lstore_n 2, 1) := by decide +kernel
theorem dX3_greatest_46 : decode cX3_greatest 46 = .ok (.iinc 4 1, 3) := by decide +kernel
theorem dX3_greatest_49 : decode cX3_greatest 49 = .ok (.goto (-42), 3) := by decide +kernel
theorem dX3_greatest_52 : decode cX3_greatest 52 = .ok (.lload_n 2, 1) := by decide +kernel
theorem dX3_greatest_53 : decode cX3_greatest 53 = .ok (.lreturn, 1) := by decide +kernel
theorem dX3_contains_0 : decode cX3_contains 0 = .ok (.iconst 1, 1) := by decide +kernel
theorem dX3_contains_1 : decode cX3_contains 1 = .ok (.istore_n 2, 1) := by decide +kernel
theorem dX3_contains_2 : decode cX3_contains 2 = .ok (.iload_n 2, 1) := by decide +kernel
theorem dX3_contains_3 : decode cX3_contains 3 = .ok (.aload_n 0, 1) := by decide +kernel
theorem dX3_contains_4 : decode cX3_contains 4 = .ok (.getfield 119, 3) := by decide +kernel
theorem dX3_contains_7 : decode cX3_contains 7 = .ok (.if_icmp .gt 38, 3) := by decide +kernel
theorem dX3_contains_10 : decode cX3_contains 10 = .ok (.aload_n 0, 1) := by decide +kernel
theorem dX3_contains_11 : decode cX3_contains 11 = .ok (.getfield 29, 3) := by decide +kernel
theorem dX3_contains_14 : decode cX3_contains 14 = .ok (.iload_n 2, 1) := by decide +kernel
theorem dX3_contains_15 : decode cX3_contains 15 = .ok (.aaload, 1) := by decide +kernel
theorem dX3_contains_16 : decode cX3_contains 16 = .ok (.astore_n 3, 1) := by decide +kernel
theorem dX3_contains_17 : decode cX3_contains 17 = .ok (.aload_n 1, 1) := by decide +kernel
theorem dX3_contains_18 : decode cX3_contains 18 = .ok (.aload_n 3, 1) := by decide +kernel
theorem dX3_contains_19 : decode cX3_contains 19 = .ok (.iconst 2, 1) := by decide +kernel
theorem dX3_contains_20 : decode cX3_contains 20 = .ok (.invokevirtual 306, 3) := by decide +kernel
theorem dX3_contains_23 : decode cX3_contains 23 = .ok (.ifCond .eq 16, 3) := by decide +kernel
theorem dX3_contains_26 : decode cX3_contains 26 = .ok (.aload_n 3, 1) := by decide +kernel
theorem dX3_contains_27 : decode cX3_contains 27 = .ok (.getfield 310, 3) := by decide +kernel
theorem dX3_contains_30 : decode cX3_contains 30 = .ok (.aload_n 1, 1) := by decide +kernel
theorem dX3_contains_31 : decode cX3_contains 31 = .ok (.getfield 310, 3) := by decide +kernel
theorem dX3_contains_34 : decode cX3_contains 34 = .ok (.if_icmp .ne 5, 3) := by decide +kernel
theorem dX3_contains_37 : decode cX3_contains 37 = .ok (.iconst 1, 1) := by decide +kernel
theorem dX3_contains_38 : decode cX3_contains 38 = .ok (.ireturn, 1) := by decide +kernel
theorem dX3_contains_39 : decode cX3_contains 39 = .ok (.iinc 2 1, 3) := by decide +kernel
theorem dX3_contains_42 : decode cX3_contains 42 = .ok (.goto (-40), 3) := by decide +kernel
theorem dX3_contains_45 : decode cX3_contains 45 = .ok (.iconst 0, 1) := by decide +kernel
theorem dX3_contains_46 : decode cX3_contains 46 = .ok (.ireturn, 1) := by decide +kernel
theorem dX3_greatestOfKey_0 : decode cX3_greatestOfKey 0 = .ok (.ldc2_w 315, 3) := by decide +kernel
theorem dX3_greatestOfKey_3 : decode cX3_greatestOfKey 3 = .ok (.lstore_n 2, 1) := by decide +kernel
theorem dX3_greatestOfKey_4 : decode cX3_greatestOfKey 4 = .ok (.iconst 1, 1) := by decide +kernel
theorem dX3_greatestOfKey_5 : decode cX3_greatestOfKey 5 = .ok (.istore 4, 2) := by decide +kernel
theorem dX3_greatestOfKey_7 : decode cX3_greatestOfKey 7 = .ok (.iload 4, 2) := by decide +kernel
theorem dX3_greatestOfKey_9 : decode cX3_greatestOfKey 9 = .ok (.aload_n 0, 1) := by decide +kernel
theorem dX3_greatestOfKey_10 : decode cX3_greatestOfKey 10 = .ok (.getfield 119, 3) := by decide +kernel
theorem dX3_greatestOfKey_13 : decode cX3_greatestOfKey 13 = .ok (.if_icmp .gt 51, 3) := by decide +kernel
theorem dX3_greatestOfKey_16 : decode cX3_greatestOfKey 16 = .ok (.aload_n 0, 1) := by decide +kernel
theorem dX3_greatestOfKey_17 : decode cX3_greatestOfKey 17 = .ok (.getfield 29, 3) := by decide +kernel
theorem dX3_greatestOfKey_20 : decode cX3_greatestOfKey 20 = .ok (.iload 4, 2) := by decide +kernel
theorem dX3_greatestOfKey_22 : decode cX3_greatestOfKey 22 = .ok (.aaload, 1) := by decide +kernel
theorem dX3_greatestOfKey_23 : decode cX3_greatestOfKey 23 = .ok (.astore 5, 2) := by decide +kernel
theorem dX3_greatestOfKey_25 : decode cX3_greatestOfKey 25 = .ok (.aload_n 1, 1) := by decide +kernel
theorem dX3_greatestOfKey_26 : decode cX3_greatestOfKey 26 = .ok (.aload 5, 2) := by decide +kernel
theorem dX3_greatestOfKey_28 : decode cX3_greatestOfKey 28 = .ok (.iconst 3, 1) := by decide +kernel
theorem dX3_greatestOfKey_29 : decode cX3_greatestOfKey 29 = .ok (.invokevirtual 306, 3) := by decide +kernel
theorem dX3_greatestOfKey_32 : decode cX3_greatestOfKey 32 = .ok (.ifCond .eq 26, 3) := by decide +kernel
theorem dX3_greatestOfKey_35 : decode cX3_greatestOfKey 35 = .ok (.aload 5, 2) := by decide +kernel
theorem dX3_greatestOfKey_37 : decode cX3_greatestOfKey 37 = .ok (.getfield 310, 3) := by decide +kernel
theorem dX3_greatestOfKey_40 : decode cX3_greatestOfKey 40 = .ok (.aload_n 1, 1) := by decide +kernel
theorem dX3_greatestOfKey_41 : decode cX3_greatestOfKey 41 = .ok (.getfield 310, 3) := by decide +kernel
theorem dX3_greatestOfKey_44 : decode cX3_greatestOfKey 44 = .ok (.if_icmp .ne 14, 3) := by decide +kernel
theorem dX3_greatestOfKey_47 : decode cX3_greatestOfKey 47 = .ok (.lload_n 2, 1) := by decide +kernel
theorem dX3_greatestOfKey_48 : decode cX3_greatestOfKey 48 = .ok (.aload 5, 2) := by decide +kernel
theorem dX3_greatestOfKey_50 : decode cX3_greatestOfKey 50 = .ok (.getfield 320, 3) := by decide +kernel
theorem dX3_greatestOfKey_53 : decode cX3_greatestOfKey 53 = .ok (.i2l, 1) := by decide +kernel
theorem dX3_greatestOfKey_54 : decode cX3_greatestOfKey 54 = .ok (.invokestatic 317, 3) := by decide +kernel
theorem dX3_greatestOfKey_57 : decode cX3_greatestOfKey 57 = .ok (.lstore_n 2, 1) := by decide +kernel
theorem dX3_greatestOfKey_58 : decode cX3_greatestOfKey 58 = .ok (.iinc 4 1, 3) := by decide +kernel
theorem dX3_greatestOfKey_61 : decode cX3_greatestOfKey 61 = .ok (.goto (-54), 3) := by decide +kernel
theorem dX3_greatestOfKey_64 : decode cX3_greatestOfKey 64 = .ok (.lload_n 2, 1) := by decide +kernel
theorem dX3_greatestOfKey_65 : decode cX3_greatestOfKey 65 = .ok (.lreturn, 1) := by decide +kernel
theorem dX3_different_0 : decode cX3_different 0 = .ok (.iconst 0, 1) := by decide +kernel
theorem dX3_different_1 : decode cX3_different 1 = .ok (.istore_n 3, 1) := by decide +kernel
theorem dX3_different_2 : decode cX3_different 2 = .ok (.iconst 1, 1) := by decide +kernel
theorem dX3_different_3 : decode cX3_different 3 = .ok (.istore 4, 2) := by decide +kernel
theorem dX3_different_5 : decode cX3_different 5 = .ok (.iload 4, 2) := by decide +kernel
theorem dX3_different_7 : decode cX3_different 7 = .ok (.aload_n 0, 1) := by decide +kernel
theorem dX3_different_8 : decode cX3_different 8 = .ok (.getfield 119, 3) := by decide +kernel
theorem dX3_different_11 : decode cX3_different 11 = .ok (.if_icmp .gt 41, 3) := by decide +kernel
theorem dX3_different_14 : decode cX3_different 14 = .ok (.aload_n 0, 1) := by decide +kernel
theorem dX3_different_15 : decode cX3_different 15 = .ok (.getfield 29, 3) := by decide +kernel
theorem dX3_different_18 : decode cX3_different 18 = .ok (.iload 4, 2) := by decide +kernel
theorem dX3_different_20 : decode cX3_different 20 = .ok (.aaload, 1) := by decide +kernel
theorem dX3_different_21 : decode cX3_different 21 = .ok (.astore 5, 2) := by decide +kernel
theorem dX3_different_23 : decode cX3_different 23 = .ok (.aload_n 1, 1) := by decide +kernel
theorem dX3_different_24 : decode cX3_different 24 = .ok (.aload 5, 2) := by decide +kernel
theorem dX3_different_26 : decode cX3_different 26 = .ok (.iload_n 2, 1) := by decide +kernel
theorem dX3_different_27 : decode cX3_different 27 = .ok (.invokevirtual 306, 3) := by decide +kernel
theorem dX3_different_30 : decode cX3_different 30 = .ok (.ifCond .eq 16, 3) := by decide +kernel
theorem dX3_different_33 : decode cX3_different 33 = .ok (.aload_n 0, 1) := by decide +kernel
theorem dX3_different_34 : decode cX3_different 34 = .ok (.aload_n 1, 1) := by decide +kernel
theorem dX3_different_35 : decode cX3_different 35 = .ok (.aload 5, 2) := by decide +kernel
theorem dX3_different_37 : decode cX3_different 37 = .ok (.invokevirtual 323, 3) := by decide +kernel
theorem dX3_different_40 : decode cX3_different 40 = .ok (.ifCond .ne 6, 3) := by decide +kernel
theorem dX3_different_43 : decode cX3_different 43 = .ok (.iinc 3 1, 3) := by decide +kernel
theorem dX3_different_46 : decode cX3_different 46 = .ok (.iinc 4 1, 3) := by decide +kernel
theorem dX3_different_49 : decode cX3_different 49 = .ok (.goto (-44), 3) := by decide +kernel
theorem dX3_different_52 : decode cX3_different 52 = .ok (.iload_n 3, 1) := by decide +kernel
theorem dX3_different_53 : decode cX3_different 53 = .ok (.ireturn, 1) := by decide +kernel
theorem dX3_isRepeated_0 : decode cX3_isRepeated 0 = .ok (.iconst 1, 1) := by decide +kernel
theorem dX3_isRepeated_1 : decode cX3_isRepeated 1 = .ok (.istore_n 3, 1) := by decide +kernel
theorem dX3_isRepeated_2 : decode cX3_isRepeated 2 = .ok (.iload_n 3, 1) := by decide +kernel
theorem dX3_isRepeated_3 : decode cX3_isRepeated 3 = .ok (.aload_n 2, 1) := by decide +kernel
theorem dX3_isRepeated_4 : decode cX3_isRepeated 4 = .ok (.getfield 327, 3) := by decide +kernel
theorem dX3_isRepeated_7 : decode cX3_isRepeated 7 = .ok (.if_icmp .ge 44, 3) := by decide +kernel
theorem dX3_isRepeated_10 : decode cX3_isRepeated 10 = .ok (.aload_n 0, 1) := by decide +kernel
theorem dX3_isRepeated_11 : decode cX3_isRepeated 11 = .ok (.getfield 29, 3) := by decide +kernel
theorem dX3_isRepeated_14 : decode cX3_isRepeated 14 = .ok (.iload_n 3, 1) := by decide +kernel
theorem dX3_isRepeated_15 : decode cX3_isRepeated 15 = .ok (.aaload, 1) := by decide +kernel
theorem dX3_isRepeated_16 : decode cX3_isRepeated 16 = .ok (.astore 4, 2) := by decide +kernel
theorem dX3_isRepeated_18 : decode cX3_isRepeated 18 = .ok (.aload_n 1, 1) := by decide +kernel
theorem dX3_isRepeated_19 : decode cX3_isRepeated 19 = .ok (.aload 4, 2) := by decide +kernel
theorem dX3_isRepeated_21 : decode cX3_isRepeated 21 = .ok (.aload_n 2, 1) := by decide +kernel
theorem dX3_isRepeated_22 : decode cX3_isRepeated 22 = .ok (.getfield 287, 3) := by decide +kernel
theorem dX3_isRepeated_25 : decode cX3_isRepeated 25 = .ok (.invokevirtual 306, 3) := by decide +kernel
theorem dX3_isRepeated_28 : decode cX3_isRepeated 28 = .ok (.ifCond .eq 17, 3) := by decide +kernel
theorem dX3_isRepeated_31 : decode cX3_isRepeated 31 = .ok (.aload 4, 2) := by decide +kernel
theorem dX3_isRepeated_33 : decode cX3_isRepeated 33 = .ok (.getfield 310, 3) := by decide +kernel
theorem dX3_isRepeated_36 : decode cX3_isRepeated 36 = .ok (.aload_n 2, 1) := by decide +kernel
theorem dX3_isRepeated_37 : decode cX3_isRepeated 37 = .ok (.getfield 310, 3) := by decide +kernel
theorem dX3_isRepeated_40 : decode cX3_isRepeated 40 = .ok (.if_icmp .ne 5, 3) := by decide +kernel
theorem dX3_isRepeated_43 : decode cX3_isRepeated 43 = .ok (.iconst 1, 1) := by decide +kernel
theorem dX3_isRepeated_44 : decode cX3_isRepeated 44 = .ok (.ireturn, 1) := by decide +kernel
theorem dX3_isRepeated_45 : decode cX3_isRepeated 45 = .ok (.iinc 3 1, 3) := by decide +kernel
theorem dX3_isRepeated_48 : decode cX3_isRepeated 48 = .ok (.goto (-46), 3) := by decide +kernel
theorem dX3_isRepeated_51 : decode cX3_isRepeated 51 = .ok (.iconst 0, 1) := by decide +kernel
theorem dX3_isRepeated_52 : decode cX3_isRepeated 52 = .ok (.ireturn, 1) := by decide +kernel
theorem dX3_strays_0 : decode cX3_strays 0 = .ok (.aload_n 1, 1) := by decide +kernel
theorem dX3_strays_1 : decode cX3_strays 1 = .ok (.aload_n 2, 1) := by decide +kernel
theorem dX3_strays_2 : decode cX3_strays 2 = .ok (.invokevirtual 330, 3) := by decide +kernel
theorem dX3_strays_5 : decode cX3_strays 5 = .ok (.istore_n 3, 1) := by decide +kernel
theorem dX3_strays_6 : decode cX3_strays 6 = .ok (.iconst 0, 1) := by decide +kernel
theorem dX3_strays_7 : decode cX3_strays 7 = .ok (.istore 4, 2) := by decide +kernel
theorem dX3_strays_9 : decode cX3_strays 9 = .ok (.iload_n 3, 1) := by decide +kernel
theorem dX3_strays_10 : decode cX3_strays 10 = .ok (.ifCond .ne 14, 3) := by decide +kernel
theorem dX3_strays_13 : decode cX3_strays 13 = .ok (.aload_n 2, 1) := by decide +kernel
theorem dX3_strays_14 : decode cX3_strays 14 = .ok (.aload_n 1, 1) := by decide +kernel
theorem dX3_strays_15 : decode cX3_strays 15 = .ok (.invokevirtual 330, 3) := by decide +kernel
theorem dX3_strays_18 : decode cX3_strays 18 = .ok (.ifCond .ne 6, 3) := by decide +kernel
theorem dX3_strays_21 : decode cX3_strays 21 = .ok (.iinc 4 1, 3) := by decide +kernel
theorem dX3_strays_24 : decode cX3_strays 24 = .ok (.aload_n 1, 1) := by decide +kernel
theorem dX3_strays_25 : decode cX3_strays 25 = .ok (.invokevirtual 81, 3) := by decide +kernel
theorem dX3_strays_28 : decode cX3_strays 28 = .ok (.ifCond .eq 18, 3) := by decide +kernel
theorem dX3_strays_31 : decode cX3_strays 31 = .ok (.aload_n 1, 1) := by decide +kernel
theorem dX3_strays_32 : decode cX3_strays 32 = .ok (.getfield 275, 3) := by decide +kernel
theorem dX3_strays_35 : decode cX3_strays 35 = .ok (.aload_n 2, 1) := by decide +kernel
theorem dX3_strays_36 : decode cX3_strays 36 = .ok (.getfield 333, 3) := by decide +kernel
theorem dX3_strays_39 : decode cX3_strays 39 = .ok (.if_icmp .ge 7, 3) := by decide +kernel
theorem dX3_strays_42 : decode cX3_strays 42 = .ok (.iconst 1, 1) := by decide +kernel
theorem dX3_strays_43 : decode cX3_strays 43 = .ok (.goto 4, 3) := by decide +kernel
theorem dX3_strays_46 : decode cX3_strays 46 = .ok (.iconst 0, 1) := by decide +kernel
theorem dX3_strays_47 : decode cX3_strays 47 = .ok (.istore 5, 2) := by decide +kernel
theorem dX3_strays_49 : decode cX3_strays 49 = .ok (.aload_n 1, 1) := by decide +kernel
theorem dX3_strays_50 : decode cX3_strays 50 = .ok (.invokevirtual 211, 3) := by decide +kernel
theorem dX3_strays_53 : decode cX3_strays 53 = .ok (.ifCond .eq 19, 3) := by decide +kernel
theorem dX3_strays_56 : decode cX3_strays 56 = .ok (.aload_n 2, 1) := by decide +kernel
theorem dX3_strays_57 : decode cX3_strays 57 = .ok (.aload_n 1, 1) := by decide +kernel
theorem dX3_strays_58 : decode cX3_strays 58 = .ok (.aload_n 1, 1) := by decide +kernel
theorem dX3_strays_59 : decode cX3_strays 59 = .ok (.getfield 287, 3) := by decide +kernel
theorem dX3_strays_62 : decode cX3_strays 62 = .ok (.invokevirtual 306, 3) := by decide +kernel
theorem dX3_strays_65 : decode cX3_strays 65 = .ok (.ifCond .ne 7, 3) := by decide +kernel
theorem dX3_strays_68 : decode cX3_strays 68 = .ok (.iconst 1, 1) := by decide +kernel
theorem dX3_strays_69 : decode cX3_strays 69 = .ok (.goto 4, 3) := by decide +kernel
theorem dX3_strays_72 : decode cX3_strays 72 = .ok (.iconst 0, 1) := by decide +kernel
theorem dX3_strays_73 : decode cX3_strays 73 = .ok (.istore 6, 2) := by decide +kernel
theorem dX3_strays_75 : decode cX3_strays 75 = .ok (.iload 5, 2) := by decide +kernel
theorem dX3_strays_77 : decode cX3_strays 77 = .ok (.ifCond .eq 15, 3) := by decide +kernel
theorem dX3_strays_80 : decode cX3_strays 80 = .ok (.iload_n 3, 1) := by decide +kernel
theorem dX3_strays_81 : decode cX3_strays 81 = .ok (.ifCond .eq 8, 3) := by decide +kernel
theorem dX3_strays_84 : decode cX3_strays 84 = .ok (.iload 6, 2) := by decide +kernel
theorem dX3_strays_86 : decode cX3_strays 86 = .ok (.ifCond .eq 6, 3) := by decide +kernel
theorem dX3_strays_89 : decode cX3_strays 89 = .ok (.iinc 4 1, 3) := by decide +kernel
theorem dX3_strays_92 : decode cX3_strays 92 = .ok (.iload 4, 2) := by decide +kernel
theorem dX3_strays_94 : decode cX3_strays 94 = .ok (.ireturn, 1) := by decide +kernel
theorem dX3_seesWhatBeganLater_0 : decode cX3_seesWhatBeganLater 0 = .ok (.aload_n 1, 1) := by decide +kernel
theorem dX3_seesWhatBeganLater_1 : decode cX3_seesWhatBeganLater 1 = .ok (.invokevirtual 81, 3) := by decide +kernel
theorem dX3_seesWhatBeganLater_4 : decode cX3_seesWhatBeganLater 4 = .ok (.ifCond .ne 5, 3) := by decide +kernel
theorem dX3_seesWhatBeganLater_7 : decode cX3_seesWhatBeganLater 7 = .ok (.iconst 0, 1) := by decide +kernel
theorem dX3_seesWhatBeganLater_8 : decode cX3_seesWhatBeganLater 8 = .ok (.ireturn, 1) := by decide +kernel
theorem dX3_seesWhatBeganLater_9 : decode cX3_seesWhatBeganLater 9 = .ok (.iconst 1, 1) := by decide +kernel
theorem dX3_seesWhatBeganLater_10 : decode cX3_seesWhatBeganLater 10 = .ok (.istore_n 2, 1) := by decide +kernel
theorem dX3_seesWhatBeganLater_11 : decode cX3_seesWhatBeganLater 11 = .ok (.iload_n 2, 1) := by decide +kernel
theorem dX3_seesWhatBeganLater_12 : decode cX3_seesWhatBeganLater 12 = .ok (.aload_n 0, 1) := by decide +kernel
theorem dX3_seesWhatBeganLater_13 : decode cX3_seesWhatBeganLater 13 = .ok (.getfield 119, 3) := by decide +kernel
theorem dX3_seesWhatBeganLater_16 : decode cX3_seesWhatBeganLater 16 = .ok (.if_icmp .gt 45, 3) := by decide +kernel
theorem dX3_seesWhatBeganLater_19 : decode cX3_seesWhatBeganLater 19 = .ok (.aload_n 0, 1) := by decide +kernel
theorem dX3_seesWhatBeganLater_20 : decode cX3_seesWhatBeganLater 20 = .ok (.getfield 29, 3) := by decide +kernel
theorem dX3_seesWhatBeganLater_23 : decode cX3_seesWhatBeganLater 23 = .ok (.iload_n 2, 1) := by decide +kernel
theorem dX3_seesWhatBeganLater_24 : decode cX3_seesWhatBeganLater 24 = .ok (.aaload, 1) := by decide +kernel
theorem dX3_seesWhatBeganLater_25 : decode cX3_seesWhatBeganLater 25 = .ok (.astore_n 3, 1) := by decide +kernel
theorem dX3_seesWhatBeganLater_26 : decode cX3_seesWhatBeganLater 26 = .ok (.aload_n 3, 1) := by decide +kernel
theorem dX3_seesWhatBeganLater_27 : decode cX3_seesWhatBeganLater 27 = .ok (.ifnull 28, 3) := by decide +kernel
theorem dX3_seesWhatBeganLater_30 : decode cX3_seesWhatBeganLater 30 = .ok (.aload_n 3, 1) := by decide +kernel
theorem dX3_seesWhatBeganLater_31 : decode cX3_seesWhatBeganLater 31 = .ok (.getfield 333, 3) := by decide +kernel
theorem dX3_seesWhatBeganLater_34 : decode cX3_seesWhatBeganLater 34 = .ok (.aload_n 1, 1) := by decide +kernel
theorem dX3_seesWhatBeganLater_35 : decode cX3_seesWhatBeganLater 35 = .ok (.getfield 275, 3) := by decide +kernel
theorem dX3_seesWhatBeganLater_38 : decode cX3_seesWhatBeganLater 38 = .ok (.if_icmp .le 17, 3) := by decide +kernel
theorem dX3_seesWhatBeganLater_41 : decode cX3_seesWhatBeganLater 41 = .ok (.aload_n 1, 1) := by decide +kernel
theorem dX3_seesWhatBeganLater_42 : decode cX3_seesWhatBeganLater 42 = .ok (.aload_n 3, 1) := by decide +kernel
theorem dX3_seesWhatBeganLater_43 : decode cX3_seesWhatBeganLater 43 = .ok (.aload_n 3, 1) := by decide +kernel
theorem dX3_seesWhatBeganLater_44 : decode cX3_seesWhatBeganLater 44 = .ok (.getfield 287, 3) := by decide +kernel
theorem dX3_seesWhatBeganLater_47 : decode cX3_seesWhatBeganLater 47 = .ok (.invokevirtual 306, 3) := by decide +kernel
theorem dX3_seesWhatBeganLater_50 : decode cX3_seesWhatBeganLater 50 = .ok (.ifCond .eq 5, 3) := by decide +kernel
theorem dX3_seesWhatBeganLater_53 : decode cX3_seesWhatBeganLater 53 = .ok (.iconst 1, 1) := by decide +kernel
theorem dX3_seesWhatBeganLater_54 : decode cX3_seesWhatBeganLater 54 = .ok (.ireturn, 1) := by decide +kernel
theorem dX3_seesWhatBeganLater_55 : decode cX3_seesWhatBeganLater 55 = .ok (.iinc 2 1, 3) := by decide +kernel
theorem dX3_seesWhatBeganLater_58 : decode cX3_seesWhatBeganLater 58 = .ok (.goto (-47), 3) := by decide +kernel
theorem dX3_seesWhatBeganLater_61 : decode cX3_seesWhatBeganLater 61 = .ok (.iconst 0, 1) := by decide +kernel
theorem dX3_seesWhatBeganLater_62 : decode cX3_seesWhatBeganLater 62 = .ok (.ireturn, 1) := by decide +kernel
theorem dX4_init_0 : decode cX4_init 0 = .ok (.aload_n 0, 1) := by decide +kernel
theorem dX4_init_1 : decode cX4_init 1 = .ok (.invokespecial 1, 3) := by decide +kernel
theorem dX4_init_4 : decode cX4_init 4 = .ok (.aload_n 0, 1) := by decide +kernel
theorem dX4_init_5 : decode cX4_init 5 = .ok (.sipush 2001, 3) := by decide +kernel
theorem dX4_init_8 : decode cX4_init 8 = .ok (.newarray .int, 2) := by decide +kernel
theorem dX4_init_10 : decode cX4_init 10 = .ok (.putfield 7, 3) := by decide +kernel
theorem dX4_init_13 : decode cX4_init 13 = .ok (.aload_n 0, 1) := by decide +kernel
theorem dX4_init_14 : decode cX4_init 14 = .ok (.sipush 2001, 3) := by decide +kernel
theorem dX4_init_17 : decode cX4_init 17 = .ok (.newarray .int, 2) := by decide +kernel
theorem dX4_init_19 : decode cX4_init 19 = .ok (.putfield 13, 3) := by decide +kernel
theorem dX4_init_22 : decode cX4_init 22 = .ok (.aload_n 0, 1) := by decide +kernel
theorem dX4_init_23 : decode cX4_init 23 = .ok (.sipush 2001, 3) := by decide +kernel
theorem dX4_init_26 : decode cX4_init 26 = .ok (.newarray .int, 2) := by decide +kernel
theorem dX4_init_28 : decode cX4_init 28 = .ok (.putfield 16, 3) := by decide +kernel
theorem dX4_init_31 : decode cX4_init 31 = .ok (.aload_n 0, 1) := by decide +kernel
theorem dX4_init_32 : decode cX4_init 32 = .ok (.sipush 2001, 3) := by decide +kernel
theorem dX4_init_35 : decode cX4_init 35 = .ok (.newarray .int, 2) := by decide +kernel
theorem dX4_init_37 : decode cX4_init 37 = .ok (.putfield 19, 3) := by decide +kernel
theorem dX4_init_40 : decode cX4_init 40 = .ok (.aload_n 0, 1) := by decide +kernel
theorem dX4_init_41 : decode cX4_init 41 = .ok (.ldc 22, 2) := by decide +kernel
theorem dX4_init_43 : decode cX4_init 43 = .ok (.newarray .int, 2) := by decide +kernel
theorem dX4_init_45 : decode cX4_init 45 = .ok (.putfield 23, 3) := by decide +kernel
theorem dX4_init_48 : decode cX4_init 48 = .ok (.aload_n 0, 1) := by decide +kernel
theorem dX4_init_49 : decode cX4_init 49 = .ok (.sipush 2001, 3) := by decide +kernel
theorem dX4_init_52 : decode cX4_init 52 = .ok (.newarray .boolean, 2) := by decide +kernel
theorem dX4_init_54 : decode cX4_init 54 = .ok (.putfield 26, 3) := by decide +kernel
theorem dX4_init_57 : decode cX4_init 57 = .ok (.aload_n 0, 1) := by decide +kernel
theorem dX4_init_58 : decode cX4_init 58 = .ok (.sipush 2001, 3) := by decide +kernel
theorem dX4_init_61 : decode cX4_init 61 = .ok (.newarray .int, 2) := by decide +kernel
theorem dX4_init_63 : decode cX4_init 63 = .ok (.putfield 30, 3) := by decide +kernel
theorem dX4_init_66 : decode cX4_init 66 = .ok (.aload_n 0, 1) := by decide +kernel
theorem dX4_init_67 : decode cX4_init 67 = .ok (.bipush 31, 2) := by decide +kernel
theorem dX4_init_69 : decode cX4_init 69 = .ok (.newarray .boolean, 2) := by decide +kernel
theorem dX4_init_71 : decode cX4_init 71 = .ok (.putfield 33, 3) := by decide +kernel
theorem dX4_init_74 : decode cX4_init 74 = .ok (.aload_n 0, 1) := by decide +kernel
theorem dX4_init_75 : decode cX4_init 75 = .ok (.bipush 31, 2) := by decide +kernel
theorem dX4_init_77 : decode cX4_init 77 = .ok (.newarray .int, 2) := by decide +kernel
theorem dX4_init_79 : decode cX4_init 79 = .ok (.putfield 36, 3) := by decide +kernel
theorem dX4_init_82 : decode cX4_init 82 = .ok (.aload_n 0, 1) := by decide +kernel
theorem dX4_init_83 : decode cX4_init 83 = .ok (.bipush 31, 2) := by decide +kernel
theorem dX4_init_85 : decode cX4_init 85 = .ok (.newarray .int, 2) := by decide +kernel
theorem dX4_init_87 : decode cX4_init 87 = .ok (.putfield 39, 3) := by decide +kernel
theorem dX4_init_90 : decode cX4_init 90 = .ok (.aload_n 0, 1) := by decide +kernel
theorem dX4_init_91 : decode cX4_init 91 = .ok (.bipush 31, 2) := by decide +kernel
theorem dX4_init_93 : decode cX4_init 93 = .ok (.newarray .int, 2) := by decide +kernel
theorem dX4_init_95 : decode cX4_init 95 = .ok (.putfield 42, 3) := by decide +kernel
theorem dX4_init_98 : decode cX4_init 98 = .ok (.aload_n 0, 1) := by decide +kernel
theorem dX4_init_99 : decode cX4_init 99 = .ok (.bipush 31, 2) := by decide +kernel
theorem dX4_init_101 : decode cX4_init 101 = .ok (.newarray .int, 2) := by decide +kernel
theorem dX4_init_103 : decode cX4_init 103 = .ok (.putfield 45, 3) := by decide +kernel
theorem dX4_init_106 : decode cX4_init 106 = .ok (.aload_n 0, 1) := by decide +kernel
theorem dX4_init_107 : decode cX4_init 107 = .ok (.sipush 961, 3) := by decide +kernel
theorem dX4_init_110 : decode cX4_init 110 = .ok (.newarray .int, 2) := by decide +kernel
theorem dX4_init_112 : decode cX4_init 112 = .ok (.putfield 48, 3) := by decide +kernel
theorem dX4_init_115 : decode cX4_init 115 = .ok (.aload_n 0, 1) := by decide +kernel
theorem dX4_init_116 : decode cX4_init 116 = .ok (.bipush 31, 2) := by decide +kernel
theorem dX4_init_118 : decode cX4_init 118 = .ok (.newarray .int, 2) := by decide +kernel
theorem dX4_init_120 : decode cX4_init 120 = .ok (.putfield 51, 3) := by decide +kernel
theorem dX4_init_123 : decode cX4_init 123 = .ok (.aload_n 0, 1) := by decide +kernel
theorem dX4_init_124 : decode cX4_init 124 = .ok (.sipush 15872, 3) := by decide +kernel
theorem dX4_init_127 : decode cX4_init 127 = .ok (.newarray .int, 2) := by decide +kernel
theorem dX4_init_129 : decode cX4_init 129 = .ok (.putfield 54, 3) := by decide +kernel
theorem dX4_init_132 : decode cX4_init 132 = .ok (.aload_n 0, 1) := by decide +kernel
theorem dX4_init_133 : decode cX4_init 133 = .ok (.sipush 961, 3) := by decide +kernel
theorem dX4_init_136 : decode cX4_init 136 = .ok (.newarray .int, 2) := by decide +kernel
theorem dX4_init_138 : decode cX4_init 138 = .ok (.putfield 57, 3) := by decide +kernel
theorem dX4_init_141 : decode cX4_init 141 = .ok (.aload_n 0, 1) := by decide +kernel
theorem dX4_init_142 : decode cX4_init 142 = .ok (.sipush 961, 3) := by decide +kernel
theorem dX4_init_145 : decode cX4_init 145 = .ok (.newarray .int, 2) := by decide +kernel
theorem dX4_init_147 : decode cX4_init 147 = .ok (.putfield 60, 3) := by decide +kernel
theorem dX4_init_150 : decode cX4_init 150 = .ok (.aload_n 0, 1) := by decide +kernel
theorem dX4_init_151 : decode cX4_init 151 = .ok (.sipush 961, 3) := by decide +kernel
theorem dX4_init_154 : decode cX4_init 154 = .ok (.newarray .int, 2) := by decide +kernel
theorem dX4_init_156 : decode cX4_init 156 = .ok (.putfield 63, 3) := by decide +kernel
theorem dX4_init_159 : decode cX4_init 159 = .ok (.aload_n 0, 1) := by decide +kernel
theorem dX4_init_160 : decode cX4_init 160 = .ok (.bipush 31, 2) := by decide +kernel
theorem dX4_init_162 : decode cX4_init 162 = .ok (.newarray .boolean, 2) := by decide +kernel
theorem dX4_init_164 : decode cX4_init 164 = .ok (.putfield 66, 3) := by decide +kernel
theorem dX4_init_167 : decode cX4_init 167 = .ok (.aload_n 0, 1) := by decide +kernel
theorem dX4_init_168 : decode cX4_init 168 = .ok (.sipush 961, 3) := by decide +kernel
theorem dX4_init_171 : decode cX4_init 171 = .ok (.newarray .int, 2) := by decide +kernel
theorem dX4_init_173 : decode cX4_init 173 = .ok (.putfield 69, 3) := by decide +kernel
theorem dX4_init_176 : decode cX4_init 176 = .ok (.aload_n 0, 1) := by decide +kernel
theorem dX4_init_177 : decode cX4_init 177 = .ok (.sipush 512, 3) := by decide +kernel
theorem dX4_init_180 : decode cX4_init 180 = .ok (.newarray .int, 2) := by decide +kernel
theorem dX4_init_182 : decode cX4_init 182 = .ok (.putfield 72, 3) := by decide +kernel
theorem dX4_init_185 : decode cX4_init 185 = .ok (.aload_n 0, 1) := by decide +kernel
theorem dX4_init_186 : decode cX4_init 186 = .ok (.sipush 512, 3) := by decide +kernel
theorem dX4_init_189 : decode cX4_init 189 = .ok (.newarray .int, 2) := by decide +kernel
theorem dX4_init_191 : decode cX4_init 191 = .ok (.putfield 75, 3) := by decide +kernel
theorem dX4_init_194 : decode cX4_init 194 = .ok (.aload_n 0, 1) := by decide +kernel
theorem dX4_init_195 : decode cX4_init 195 = .ok (.sipush 512, 3) := by decide +kernel
theorem dX4_init_198 : decode cX4_init 198 = .ok (.newarray .int, 2) := by decide +kernel
theorem dX4_init_200 : decode cX4_init 200 = .ok (.putfield 78, 3) := by decide +kernel
theorem dX4_init_203 : decode cX4_init 203 = .ok (.aload_n 0, 1) := by decide +kernel
theorem dX4_init_204 : decode cX4_init 204 = .ok (.sipush 512, 3) := by decide +kernel
theorem dX4_init_207 : decode cX4_init 207 = .ok (.newarray .int, 2) := by decide +kernel
theorem dX4_init_209 : decode cX4_init 209 = .ok (.putfield 81, 3) := by decide +kernel
theorem dX4_init_212 : decode cX4_init 212 = .ok (.aload_n 0, 1) := by decide +kernel
theorem dX4_init_213 : decode cX4_init 213 = .ok (.sipush 512, 3) := by decide +kernel
theorem dX4_init_216 : decode cX4_init 216 = .ok (.newarray .int, 2) := by decide +kernel
theorem dX4_init_218 : decode cX4_init 218 = .ok (.putfield 84, 3) := by decide +kernel
theorem dX4_init_221 : decode cX4_init 221 = .ok (.aload_n 0, 1) := by decide +kernel
theorem dX4_init_222 : decode cX4_init 222 = .ok (.sipush 512, 3) := by decide +kernel
theorem dX4_init_225 : decode cX4_init 225 = .ok (.newarray .int, 2) := by decide +kernel
theorem dX4_init_227 : decode cX4_init 227 = .ok (.putfield 87, 3) := by decide +kernel
theorem dX4_init_230 : decode cX4_init 230 = .ok (.aload_n 0, 1) := by decide +kernel
theorem dX4_init_231 : decode cX4_init 231 = .ok (.sipush 512, 3) := by decide +kernel
theorem dX4_init_234 : decode cX4_init 234 = .ok (.newarray .int, 2) := by decide +kernel
theorem dX4_init_236 : decode cX4_init 236 = .ok (.putfield 90, 3) := by decide +kernel
theorem dX4_init_239 : decode cX4_init 239 = .ok (.aload_n 0, 1) := by decide +kernel
theorem dX4_init_240 : decode cX4_init 240 = .ok (.sipush 512, 3) := by decide +kernel
theorem dX4_init_243 : decode cX4_init 243 = .ok (.newarray .int, 2) := by decide +kernel
theorem dX4_init_245 : decode cX4_init 245 = .ok (.putfield 93, 3) := by decide +kernel
theorem dX4_init_248 : decode cX4_init 248 = .ok (.aload_n 0, 1) := by decide +kernel
theorem dX4_init_249 : decode cX4_init 249 = .ok (.sipush 512, 3) := by decide +kernel
theorem dX4_init_252 : decode cX4_init 252 = .ok (.newarray .int, 2) := by decide +kernel
theorem dX4_init_254 : decode cX4_init 254 = .ok (.putfield 96, 3) := by decide +kernel
theorem dX4_init_257 : decode cX4_init 257 = .ok (.aload_n 0, 1) := by decide +kernel
theorem dX4_init_258 : decode cX4_init 258 = .ok (.sipush 15872, 3) := by decide +kernel
theorem dX4_init_261 : decode cX4_init 261 = .ok (.newarray .int, 2) := by decide +kernel
theorem dX4_init_263 : decode cX4_init 263 = .ok (.putfield 99, 3) := by decide +kernel
theorem dX4_init_266 : decode cX4_init 266 = .ok (.aload_n 0, 1) := by decide +kernel
theorem dX4_init_267 : decode cX4_init 267 = .ok (.sipush 512, 3) := by decide +kernel
theorem dX4_init_270 : decode cX4_init 270 = .ok (.newarray .boolean, 2) := by decide +kernel
theorem dX4_init_272 : decode cX4_init 272 = .ok (.putfield 102, 3) := by decide +kernel
theorem dX4_init_275 : decode cX4_init 275 = .ok (.aload_n 0, 1) := by decide +kernel
theorem dX4_init_276 : decode cX4_init 276 = .ok (.sipush 512, 3) := by decide +kernel
theorem dX4_init_279 : decode cX4_init 279 = .ok (.newarray .int, 2) := by decide +kernel
theorem dX4_init_281 : decode cX4_init 281 = .ok (.putfield 105, 3) := by decide +kernel
theorem dX4_init_284 : decode cX4_init 284 = .ok (.aload_n 0, 1) := by decide +kernel
theorem dX4_init_285 : decode cX4_init 285 = .ok (.iload_n 1, 1) := by decide +kernel
theorem dX4_init_286 : decode cX4_init 286 = .ok (.iconst 3, 1) := by decide +kernel
theorem dX4_init_287 : decode cX4_init 287 = .ok (.if_icmp .lt 9, 3) := by decide +kernel
theorem dX4_init_290 : decode cX4_init 290 = .ok (.iload_n 1, 1) := by decide +kernel
theorem dX4_init_291 : decode cX4_init 291 = .ok (.bipush 31, 2) := by decide +kernel
theorem dX4_init_293 : decode cX4_init 293 = .ok (.if_icmp .le 7, 3) := by decide +kernel
theorem dX4_init_296 : decode cX4_init 296 = .ok (.iconst 3, 1) := by decide +kernel
theorem dX4_init_297 : decode cX4_init 297 = .ok (.goto 4, 3) := by decide +kernel
theorem dX4_init_300 : decode cX4_init 300 = .ok (.iload_n 1, 1) := by decide +kernel
theorem dX4_init_301 : decode cX4_init 301 = .ok (.putfield 108, 3) := by decide +kernel
theorem dX4_init_304 : decode cX4_init 304 = .ok (.return_, 1) := by decide +kernel
theorem dX4_isNode_0 : decode cX4_isNode 0 = .ok (.iload_n 1, 1) := by decide +kernel
theorem dX4_isNode_1 : decode cX4_isNode 1 = .ok (.ifCond .lt 15, 3) := by decide +kernel
theorem dX4_isNode_4 : decode cX4_isNode 4 = .ok (.iload_n 1, 1) := by decide +kernel
theorem dX4_isNode_5 : decode cX4_isNode 5 = .ok (.aload_n 0, 1) := by decide +kernel
theorem dX4_isNode_6 : decode cX4_isNode 6 = .ok (.getfield 108, 3) := by decide +kernel
theorem dX4_isNode_9 : decode cX4_isNode 9 = .ok (.if_icmp .ge 7, 3) := by decide +kernel
theorem dX4_isNode_12 : decode cX4_isNode 12 = .ok (.iconst 1, 1) := by decide +kernel
theorem dX4_isNode_13 : decode cX4_isNode 13 = .ok (.goto 4, 3) := by decide +kernel
theorem dX4_isNode_16 : decode cX4_isNode 16 = .ok (.iconst 0, 1) := by decide +kernel
theorem dX4_isNode_17 : decode cX4_isNode 17 = .ok (.ireturn, 1) := by decide +kernel
theorem dX4_hasRoom_0 : decode cX4_hasRoom 0 = .ok (.aload_n 0, 1) := by decide +kernel
theorem dX4_hasRoom_1 : decode cX4_hasRoom 1 = .ok (.getfield 115, 3) := by decide +kernel
theorem dX4_hasRoom_4 : decode cX4_hasRoom 4 = .ok (.iload_n 1, 1) := by decide +kernel
theorem dX4_hasRoom_5 : decode cX4_hasRoom 5 = .ok (.iadd, 1) := by decide +kernel
theorem dX4_hasRoom_6 : decode cX4_hasRoom 6 = .ok (.sipush 2000, 3) := by decide +kernel
theorem dX4_hasRoom_9 : decode cX4_hasRoom 9 = .ok (.if_icmp .gt 7, 3) := by decide +kernel
theorem dX4_hasRoom_12 : decode cX4_hasRoom 12 = .ok (.iconst 1, 1) := by decide +kernel
theorem dX4_hasRoom_13 : decode cX4_hasRoom 13 = .ok (.goto 4, 3) := by decide +kernel
theorem dX4_hasRoom_16 : decode cX4_hasRoom 16 = .ok (.iconst 0, 1) := by decide +kernel
theorem dX4_hasRoom_17 : decode cX4_hasRoom 17 = .ok (.ireturn, 1) := by decide +kernel
theorem dX4_send_0 : decode cX4_send 0 = .ok (.iconst 0, 1) := by decide +kernel
theorem dX4_send_1 : decode cX4_send 1 = .ok (.istore 5, 2) := by decide +kernel
theorem dX4_send_3 : decode cX4_send 3 = .ok (.aload_n 0, 1) := by decide +kernel
theorem dX4_send_4 : decode cX4_send 4 = .ok (.getfield 26, 3) := by decide +kernel
theorem dX4_send_7 : decode cX4_send 7 = .ok (.iload 5, 2) := by decide +kernel
theorem dX4_send_9 : decode cX4_send 9 = .ok (.baload, 1) := by decide +kernel
theorem dX4_send_10 : decode cX4_send 10 = .ok (.ifCond .eq 9, 3) := by decide +kernel
theorem dX4_send_13 : decode cX4_send 13 = .ok (.iinc 5 1, 3) := by decide +kernel
theorem dX4_send_16 : decode cX4_send 16 = .ok (.goto (-13), 3) := by decide +kernel
theorem dX4_send_19 : decode cX4_send 19 = .ok (.aload_n 0, 1) := by decide +kernel
theorem dX4_send_20 : decode cX4_send 20 = .ok (.getfield 26, 3) := by decide +kernel
theorem dX4_send_23 : decode cX4_send 23 = .ok (.iload 5, 2) := by decide +kernel
theorem dX4_send_25 : decode cX4_send 25 = .ok (.iconst 1, 1) := by decide +kernel
theorem dX4_send_26 : decode cX4_send 26 = .ok (.bastore, 1) := by decide +kernel
theorem dX4_send_27 : decode cX4_send 27 = .ok (.aload_n 0, 1) := by decide +kernel
theorem dX4_send_28 : decode cX4_send 28 = .ok (.getfield 7, 3) := by decide +kernel
theorem dX4_send_31 : decode cX4_send 31 = .ok (.iload 5, 2) := by decide +kernel
theorem dX4_send_33 : decode cX4_send 33 = .ok (.iload_n 1, 1) := by decide +kernel
theorem dX4_send_34 : decode cX4_send 34 = .ok (.iastore, 1) := by decide +kernel
theorem dX4_send_35 : decode cX4_send 35 = .ok (.aload_n 0, 1) := by decide +kernel
theorem dX4_send_36 : decode cX4_send 36 = .ok (.getfield 13, 3) := by decide +kernel
theorem dX4_send_39 : decode cX4_send 39 = .ok (.iload 5, 2) := by decide +kernel
theorem dX4_send_41 : decode cX4_send 41 = .ok (.iload_n 2, 1) := by decide +kernel
theorem dX4_send_42 : decode cX4_send 42 = .ok (.iastore, 1) := by decide +kernel
theorem dX4_send_43 : decode cX4_send 43 = .ok (.aload_n 0, 1) := by decide +kernel
theorem dX4_send_44 : decode cX4_send 44 = .ok (.getfield 16, 3) := by decide +kernel
theorem dX4_send_47 : decode cX4_send 47 = .ok (.iload 5, 2) := by decide +kernel
theorem dX4_send_49 : decode cX4_send 49 = .ok (.iload_n 3, 1) := by decide +kernel
theorem dX4_send_50 : decode cX4_send 50 = .ok (.iastore, 1) := by decide +kernel
theorem dX4_send_51 : decode cX4_send 51 = .ok (.aload_n 0, 1) := by decide +kernel
theorem dX4_send_52 : decode cX4_send 52 = .ok (.getfield 19, 3) := by decide +kernel
theorem dX4_send_55 : decode cX4_send 55 = .ok (.iload 5, 2) := by decide +kernel
theorem dX4_send_57 : decode cX4_send 57 = .ok (.iload 4, 2) := by decide +kernel
theorem dX4_send_59 : decode cX4_send 59 = .ok (.iastore, 1) := by decide +kernel
theorem dX4_send_60 : decode cX4_send 60 = .ok (.aload_n 0, 1) := by decide +kernel
theorem dX4_send_61 : decode cX4_send 61 = .ok (.getfield 30, 3) := by decide +kernel
theorem dX4_send_64 : decode cX4_send 64 = .ok (.aload_n 0, 1) := by decide +kernel
theorem dX4_send_65 : decode cX4_send 65 = .ok (.getfield 115, 3) := by decide +kernel
theorem dX4_send_68 : decode cX4_send 68 = .ok (.iload 5, 2) := by decide +kernel
theorem dX4_send_70 : decode cX4_send 70 = .ok (.iastore, 1) := by decide +kernel
theorem dX4_send_71 : decode cX4_send 71 = .ok (.aload_n 0, 1) := by decide +kernel
theorem dX4_send_72 : decode cX4_send 72 = .ok (.dup, 1) := by decide +kernel
theorem dX4_send_73 : decode cX4_send 73 = .ok (.getfield 115, 3) := by decide +kernel
theorem dX4_send_76 : decode cX4_send 76 = .ok (.iconst 1, 1) := by decide +kernel
theorem dX4_send_77 : decode cX4_send 77 = .ok (.iadd, 1) := by decide +kernel
theorem dX4_send_78 : decode cX4_send 78 = .ok (.putfield 115, 3) := by decide +kernel
theorem dX4_send_81 : decode cX4_send 81 = .ok (.aload_n 0, 1) := by decide +kernel
theorem dX4_send_82 : decode cX4_send 82 = .ok (.dup, 1) := by decide +kernel
theorem dX4_send_83 : decode cX4_send 83 = .ok (.getfield 118, 3) := by decide +kernel
theorem dX4_send_86 : decode cX4_send 86 = .ok (.iconst 1, 1) := by decide +kernel
theorem dX4_send_87 : decode cX4_send 87 = .ok (.iadd, 1) := by decide +kernel
theorem dX4_send_88 : decode cX4_send 88 = .ok (.putfield 118, 3) := by decide +kernel
theorem dX4_send_91 : decode cX4_send 91 = .ok (.iload 5, 2) := by decide +kernel
theorem dX4_send_93 : decode cX4_send 93 = .ok (.ireturn, 1) := by decide +kernel
theorem dX4_toAll_0 : decode cX4_toAll 0 = .ok (.aload_n 0, 1) := by decide +kernel
theorem dX4_toAll_1 : decode cX4_toAll 1 = .ok (.getfield 39, 3) := by decide +kernel
theorem dX4_toAll_4 : decode cX4_toAll 4 = .ok (.iload_n 1, 1) := by decide +kernel
theorem dX4_toAll_5 : decode cX4_toAll 5 = .ok (.dup2, 1) := by decide +kernel
theorem dX4_toAll_6 : decode cX4_toAll 6 = .ok (.iaload, 1) := by decide +kernel
theorem dX4_toAll_7 : decode cX4_toAll 7 = .ok (.iconst 1, 1) := by decide +kernel
theorem dX4_toAll_8 : decode cX4_toAll 8 = .ok (.iadd, 1) := by decide +kernel
theorem dX4_toAll_9 : decode cX4_toAll 9 = .ok (.iastore, 1) := by decide +kernel
theorem dX4_toAll_10 : decode cX4_toAll 10 = .ok (.aload_n 0, 1) := by decide +kernel
theorem dX4_toAll_11 : decode cX4_toAll 11 = .ok (.getfield 45, 3) := by decide +kernel
theorem dX4_toAll_14 : decode cX4_toAll 14 = .ok (.iload_n 1, 1) := by decide +kernel
theorem dX4_toAll_15 : decode cX4_toAll 15 = .ok (.iconst 0, 1) := by decide +kernel
theorem dX4_toAll_16 : decode cX4_toAll 16 = .ok (.iastore, 1) := by decide +kernel
theorem dX4_toAll_17 : decode cX4_toAll 17 = .ok (.iconst 0, 1) := by decide +kernel
theorem dX4_toAll_18 : decode cX4_toAll 18 = .ok (.istore 4, 2) := by decide +kernel
theorem dX4_toAll_20 : decode cX4_toAll 20 = .ok (.iload 4, 2) := by decide +kernel
theorem dX4_toAll_22 : decode cX4_toAll 22 = .ok (.aload_n 0, 1) := by decide +kernel
theorem dX4_toAll_23 : decode cX4_toAll 23 = .ok (.getfield 108, 3) := by decide +kernel
theorem dX4_toAll_26 : decode cX4_toAll 26 = .ok (.if_icmp .ge 70, 3) := by decide +kernel
theorem dX4_toAll_29 : decode cX4_toAll 29 = .ok (.aload_n 0, 1) := by decide +kernel
theorem dX4_toAll_30 : decode cX4_toAll 30 = .ok (.iload_n 2, 1) := by decide +kernel
theorem dX4_toAll_31 : decode cX4_toAll 31 = .ok (.iload_n 1, 1) := by decide +kernel
theorem dX4_toAll_32 : decode cX4_toAll 32 = .ok (.iload 4, 2) := by decide +kernel
theorem dX4_toAll_34 : decode cX4_toAll 34 = .ok (.aload_n 0, 1) := by decide +kernel
theorem dX4_toAll_35 : decode cX4_toAll 35 = .ok (.getfield 39, 3) := by decide +kernel
theorem dX4_toAll_38 : decode cX4_toAll 38 = .ok (.iload_n 1, 1) := by decide +kernel
theorem dX4_toAll_39 : decode cX4_toAll 39 = .ok (.iaload, 1) := by decide +kernel
theorem dX4_toAll_40 : decode cX4_toAll 40 = .ok (.invokevirtual 121, 3) := by decide +kernel
theorem dX4_toAll_43 : decode cX4_toAll 43 = .ok (.istore 5, 2) := by decide +kernel
theorem dX4_toAll_45 : decode cX4_toAll 45 = .ok (.iconst 0, 1) := by decide +kernel
theorem dX4_toAll_46 : decode cX4_toAll 46 = .ok (.istore 6, 2) := by decide +kernel
theorem dX4_toAll_48 : decode cX4_toAll 48 = .ok (.iload 6, 2) := by decide +kernel
theorem dX4_toAll_50 : decode cX4_toAll 50 = .ok (.aload_n 0, 1) := by decide +kernel
theorem dX4_toAll_51 : decode cX4_toAll 51 = .ok (.getfield 108, 3) := by decide +kernel
theorem dX4_toAll_54 : decode cX4_toAll 54 = .ok (.if_icmp .ge 36, 3) := by decide +kernel
theorem dX4_toAll_57 : decode cX4_toAll 57 = .ok (.iload_n 2, 1) := by decide +kernel
theorem dX4_toAll_58 : decode cX4_toAll 58 = .ok (.iconst 2, 1) := by decide +kernel
theorem dX4_toAll_59 : decode cX4_toAll 59 = .ok (.if_icmp .ne 31, 3) := by decide +kernel
theorem dX4_toAll_62 : decode cX4_toAll 62 = .ok (.aload_n 0, 1) := by decide +kernel
theorem dX4_toAll_63 : decode cX4_toAll 63 = .ok (.getfield 23, 3) := by decide +kernel
theorem dX4_toAll_66 : decode cX4_toAll 66 = .ok (.bipush 31, 2) := by decide +kernel
theorem dX4_toAll_68 : decode cX4_toAll 68 = .ok (.iload 5, 2) := by decide +kernel
theorem dX4_toAll_70 : decode cX4_toAll 70 = .ok (.imul, 1) := by decide +kernel
theorem dX4_toAll_71 : decode cX4_toAll 71 = .ok (.iload 6, 2) := by decide +kernel
theorem dX4_toAll_73 : decode cX4_toAll 73 = .ok (.iadd, 1) := by decide +kernel
theorem dX4_toAll_74 : decode cX4_toAll 74 = .ok (.aload_n 3, 1) := by decide +kernel
theorem dX4_toAll_75 : decode cX4_toAll 75 = .ok (.bipush 31, 2) := by decide +kernel
theorem dX4_toAll_77 : decode cX4_toAll 77 = .ok (.iload_n 1, 1) := by decide +kernel
theorem dX4_toAll_78 : decode cX4_toAll 78 = .ok (.imul, 1) := by decide +kernel
theorem dX4_toAll_79 : decode cX4_toAll 79 = .ok (.iload 6, 2) := by decide +kernel
theorem dX4_toAll_81 : decode cX4_toAll 81 = .ok (.iadd, 1) := by decide +kernel
theorem dX4_toAll_82 : decode cX4_toAll 82 = .ok (.iaload, 1) := by decide +kernel
theorem dX4_toAll_83 : decode cX4_toAll 83 = .ok (.iastore, 1) := by decide +kernel
theorem dX4_toAll_84 : decode cX4_toAll 84 = .ok (.iinc 6 1, 3) := by decide +kernel
theorem dX4_toAll_87 : decode cX4_toAll 87 = .ok (.goto (-39), 3) := by decide +kernel
theorem dX4_toAll_90 : decode cX4_toAll 90 = .ok (.iinc 4 1, 3) := by decide +kernel
theorem dX4_toAll_93 : decode cX4_toAll 93 = .ok (.goto (-73), 3) := by decide +kernel
theorem dX4_toAll_96 : decode cX4_toAll 96 = .ok (.return_, 1) := by decide +kernel
theorem dX4_collect_0 : decode cX4_collect 0 = .ok (.aload_n 0, 1) := by decide +kernel
theorem dX4_collect_1 : decode cX4_collect 1 = .ok (.getfield 36, 3) := by decide +kernel
theorem dX4_collect_4 : decode cX4_collect 4 = .ok (.iload_n 1, 1) := by decide +kernel
theorem dX4_collect_5 : decode cX4_collect 5 = .ok (.iconst 1, 1) := by decide +kernel
theorem dX4_collect_6 : decode cX4_collect 6 = .ok (.iastore, 1) := by decide +kernel
theorem dX4_collect_7 : decode cX4_collect 7 = .ok (.aload_n 0, 1) := by decide +kernel
theorem dX4_collect_8 : decode cX4_collect 8 = .ok (.getfield 90, 3) := by decide +kernel
theorem dX4_collect_11 : decode cX4_collect 11 = .ok (.aload_n 0, 1) := by decide +kernel
theorem dX4_collect_12 : decode cX4_collect 12 = .ok (.getfield 42, 3) := by decide +kernel
theorem dX4_collect_15 : decode cX4_collect 15 = .ok (.iload_n 1, 1) := by decide +kernel
theorem dX4_collect_16 : decode cX4_collect 16 = .ok (.iaload, 1) := by decide +kernel
theorem dX4_collect_17 : decode cX4_collect 17 = .ok (.dup2, 1) := by decide +kernel
theorem dX4_collect_18 : decode cX4_collect 18 = .ok (.iaload, 1) := by decide +kernel
theorem dX4_collect_19 : decode cX4_collect 19 = .ok (.iconst 1, 1) := by decide +kernel
theorem dX4_collect_20 : decode cX4_collect 20 = .ok (.iadd, 1) := by decide +kernel
theorem dX4_collect_21 : decode cX4_collect 21 = .ok (.iastore, 1) := by decide +kernel
theorem dX4_collect_22 : decode cX4_collect 22 = .ok (.iconst 0, 1) := by decide +kernel
theorem dX4_collect_23 : decode cX4_collect 23 = .ok (.istore_n 2, 1) := by decide +kernel
theorem dX4_collect_24 : decode cX4_collect 24 = .ok (.iload_n 2, 1) := by decide +kernel
theorem dX4_collect_25 : decode cX4_collect 25 = .ok (.aload_n 0, 1) := by decide +kernel
theorem dX4_collect_26 : decode cX4_collect 26 = .ok (.getfield 108, 3) := by decide +kernel
theorem dX4_collect_29 : decode cX4_collect 29 = .ok (.if_icmp .ge 21, 3) := by decide +kernel
theorem dX4_collect_32 : decode cX4_collect 32 = .ok (.aload_n 0, 1) := by decide +kernel
theorem dX4_collect_33 : decode cX4_collect 33 = .ok (.getfield 57, 3) := by decide +kernel
theorem dX4_collect_36 : decode cX4_collect 36 = .ok (.bipush 31, 2) := by decide +kernel
theorem dX4_collect_38 : decode cX4_collect 38 = .ok (.iload_n 1, 1) := by decide +kernel
theorem dX4_collect_39 : decode cX4_collect 39 = .ok (.imul, 1) := by decide +kernel
theorem dX4_collect_40 : decode cX4_collect 40 = .ok (.iload_n 2, 1) := by decide +kernel
theorem dX4_collect_41 : decode cX4_collect 41 = .ok (.iadd, 1) := by decide +kernel
theorem dX4_collect_42 : decode cX4_collect 42 = .ok (.iconst 0, 1) := by decide +kernel
theorem dX4_collect_43 : decode cX4_collect 43 = .ok (.iastore, 1) := by decide +kernel
theorem dX4_collect_44 : decode cX4_collect 44 = .ok (.iinc 2 1, 3) := by decide +kernel
theorem dX4_collect_47 : decode cX4_collect 47 = .ok (.goto (-23), 3) := by decide +kernel
theorem dX4_collect_50 : decode cX4_collect 50 = .ok (.aload_n 0, 1) := by decide +kernel
theorem dX4_collect_51 : decode cX4_collect 51 = .ok (.iload_n 1, 1) := by decide +kernel
theorem dX4_collect_52 : decode cX4_collect 52 = .ok (.iconst 0, 1) := by decide +kernel
theorem dX4_collect_53 : decode cX4_collect 53 = .ok (.aload_n 0, 1) := by decide +kernel
theorem dX4_collect_54 : decode cX4_collect 54 = .ok (.getfield 57, 3) := by decide +kernel
theorem dX4_collect_57 : decode cX4_collect 57 = .ok (.invokevirtual 125, 3) := by decide +kernel
theorem dX4_collect_60 : decode cX4_collect 60 = .ok (.return_, 1) := by decide +kernel
theorem dX4_begin_0 : decode cX4_begin 0 = .ok (.aload_n 0, 1) := by decide +kernel
theorem dX4_begin_1 : decode cX4_begin 1 = .ok (.getfield 33, 3) := by decide +kernel
theorem dX4_begin_4 : decode cX4_begin 4 = .ok (.iload_n 1, 1) := by decide +kernel
theorem dX4_begin_5 : decode cX4_begin 5 = .ok (.baload, 1) := by decide +kernel
theorem dX4_begin_6 : decode cX4_begin 6 = .ok (.ifCond .ne 33, 3) := by decide +kernel
theorem dX4_begin_9 : decode cX4_begin 9 = .ok (.aload_n 0, 1) := by decide +kernel
theorem dX4_begin_10 : decode cX4_begin 10 = .ok (.getfield 36, 3) := by decide +kernel
theorem dX4_begin_13 : decode cX4_begin 13 = .ok (.iload_n 1, 1) := by decide +kernel
theorem dX4_begin_14 : decode cX4_begin 14 = .ok (.iaload, 1) := by decide +kernel
theorem dX4_begin_15 : decode cX4_begin 15 = .ok (.ifCond .ne 24, 3) := by decide +kernel
theorem dX4_begin_18 : decode cX4_begin 18 = .ok (.aload_n 0, 1) := by decide +kernel
theorem dX4_begin_19 : decode cX4_begin 19 = .ok (.getfield 129, 3) := by decide +kernel
theorem dX4_begin_22 : decode cX4_begin 22 = .ok (.sipush 511, 3) := by decide +kernel
theorem dX4_begin_25 : decode cX4_begin 25 = .ok (.if_icmp .eq 14, 3) := by decide +kernel
theorem dX4_begin_28 : decode cX4_begin 28 = .ok (.aload_n 0, 1) := by decide +kernel
theorem dX4_begin_29 : decode cX4_begin 29 = .ok (.aload_n 0, 1) := by decide +kernel
theorem dX4_begin_30 : decode cX4_begin 30 = .ok (.getfield 108, 3) := by decide +kernel
theorem dX4_begin_33 : decode cX4_begin 33 = .ok (.invokevirtual 132, 3) := by decide +kernel
theorem dX4_begin_36 : decode cX4_begin 36 = .ok (.ifCond .ne 5, 3) := by decide +kernel
theorem dX4_begin_39 : decode cX4_begin 39 = .ok (.iconst (-1), 1) := by decide +kernel
theorem dX4_begin_40 : decode cX4_begin 40 = .ok (.ireturn, 1) := by decide +kernel
theorem dX4_begin_41 : decode cX4_begin 41 = .ok (.aload_n 0, 1) := by decide +kernel
theorem dX4_begin_42 : decode cX4_begin 42 = .ok (.dup, 1) := by decide +kernel
theorem dX4_begin_43 : decode cX4_begin 43 = .ok (.getfield 136, 3) := by decide +kernel
theorem dX4_begin_46 : decode cX4_begin 46 = .ok (.iconst 1, 1) := by decide +kernel
theorem dX4_begin_47 : decode cX4_begin 47 = .ok (.iadd, 1) := by decide +kernel
theorem dX4_begin_48 : decode cX4_begin 48 = .ok (.putfield 136, 3) := by decide +kernel
theorem dX4_begin_51 : decode cX4_begin 51 = .ok (.aload_n 0, 1) := by decide +kernel
theorem dX4_begin_52 : decode cX4_begin 52 = .ok (.dup, 1) := by decide +kernel
theorem dX4_begin_53 : decode cX4_begin 53 = .ok (.getfield 129, 3) := by decide +kernel
theorem dX4_begin_56 : decode cX4_begin 56 = .ok (.iconst 1, 1) := by decide +kernel
theorem dX4_begin_57 : decode cX4_begin 57 = .ok (.iadd, 1) := by decide +kernel
theorem dX4_begin_58 : decode cX4_begin 58 = .ok (.putfield 129, 3) := by decide +kernel
theorem dX4_begin_61 : decode cX4_begin 61 = .ok (.aload_n 0, 1) := by decide +kernel
theorem dX4_begin_62 : decode cX4_begin 62 = .ok (.getfield 129, 3) := by decide +kernel
theorem dX4_begin_65 : decode cX4_begin 65 = .ok (.istore 5, 2) := by decide +kernel
theorem dX4_begin_67 : decode cX4_begin 67 = .ok (.aload_n 0, 1) := by decide +kernel
theorem dX4_begin_68 : decode cX4_begin 68 = .ok (.getfield 72, 3) := by decide +kernel
theorem dX4_begin_71 : decode cX4_begin 71 = .ok (.iload 5, 2) := by decide +kernel
theorem dX4_begin_73 : decode cX4_begin 73 = .ok (.iload_n 1, 1) := by decide +kernel
theorem dX4_begin_74 : decode cX4_begin 74 = .ok (.iastore, 1) := by decide +kernel
theorem dX4_begin_75 : decode cX4_begin 75 = .ok (.aload_n 0, 1) := by decide +kernel
theorem dX4_begin_76 : decode cX4_begin 76 = .ok (.getfield 75, 3) := by decide +kernel
theorem dX4_begin_79 : decode cX4_begin 79 = .ok (.iload 5, 2) := by decide +kernel
theorem dX4_begin_81 : decode cX4_begin 81 = .ok (.iload_n 2, 1) := by decide +kernel
theorem dX4_begin_82 : decode cX4_begin 82 = .ok (.iastore, 1) := by decide +kernel
theorem dX4_begin_83 : decode cX4_begin 83 = .ok (.aload_n 0, 1) := by decide +kernel
theorem dX4_begin_84 : decode cX4_begin 84 = .ok (.getfield 78, 3) := by decide +kernel
theorem dX4_begin_87 : decode cX4_begin 87 = .ok (.iload 5, 2) := by decide +kernel
theorem dX4_begin_89 : decode cX4_begin 89 = .ok (.iload_n 3, 1) := by decide +kernel
theorem dX4_begin_90 : decode cX4_begin 90 = .ok (.iastore, 1) := by decide +kernel
theorem dX4_begin_91 : decode cX4_begin 91 = .ok (.aload_n 0, 1) := by decide +kernel
theorem dX4_begin_92 : decode cX4_begin 92 = .ok (.getfield 81, 3) := by decide +kernel
theorem dX4_begin_95 : decode cX4_begin 95 = .ok (.iload 5, 2) := by decide +kernel
theorem dX4_begin_97 : decode cX4_begin 97 = .ok (.iload 4, 2) := by decide +kernel
theorem dX4_begin_99 : decode cX4_begin 99 = .ok (.iastore, 1) := by decide +kernel
theorem dX4_begin_100 : decode cX4_begin 100 = .ok (.aload_n 0, 1) := by decide +kernel
theorem dX4_begin_101 : decode cX4_begin 101 = .ok (.getfield 84, 3) := by decide +kernel
theorem dX4_begin_104 : decode cX4_begin 104 = .ok (.iload 5, 2) := by decide +kernel
theorem dX4_begin_106 : decode cX4_begin 106 = .ok (.aload_n 0, 1) := by decide +kernel
theorem dX4_begin_107 : decode cX4_begin 107 = .ok (.getfield 136, 3) := by decide +kernel
theorem dX4_begin_110 : decode cX4_begin 110 = .ok (.iastore, 1) := by decide +kernel
theorem dX4_begin_111 : decode cX4_begin 111 = .ok (.aload_n 0, 1) := by decide +kernel
theorem dX4_begin_112 : decode cX4_begin 112 = .ok (.getfield 87, 3) := by decide +kernel
theorem dX4_begin_115 : decode cX4_begin 115 = .ok (.iload 5, 2) := by decide +kernel
theorem dX4_begin_117 : decode cX4_begin 117 = .ok (.iconst (-1), 1) := by decide +kernel
theorem dX4_begin_118 : decode cX4_begin 118 = .ok (.iastore, 1) := by decide +kernel
theorem dX4_begin_119 : decode cX4_begin 119 = .ok (.aload_n 0, 1) := by decide +kernel
theorem dX4_begin_120 : decode cX4_begin 120 = .ok (.getfield 93, 3) := by decide +kernel
theorem dX4_begin_123 : decode cX4_begin 123 = .ok (.iload 5, 2) := by decide +kernel
theorem dX4_begin_125 : decode cX4_begin 125 = .ok (.iconst (-1), 1) := by decide +kernel
theorem dX4_begin_126 : decode cX4_begin 126 = .ok (.iastore, 1) := by decide +kernel
theorem dX4_begin_127 : decode cX4_begin 127 = .ok (.aload_n 0, 1) := by decide +kernel
theorem dX4_begin_128 : decode cX4_begin 128 = .ok (.getfield 42, 3) := by decide +kernel
theorem dX4_begin_131 : decode cX4_begin 131 = .ok (.iload_n 1, 1) := by decide +kernel
theorem dX4_begin_132 : decode cX4_begin 132 = .ok (.iload 5, 2) := by decide +kernel
theorem dX4_begin_134 : decode cX4_begin 134 = .ok (.iastore, 1) := by decide +kernel
theorem dX4_begin_135 : decode cX4_begin 135 = .ok (.aload_n 0, 1) := by decide +kernel
theorem dX4_begin_136 : decode cX4_begin 136 = .ok (.getfield 66, 3) := by decide +kernel
theorem dX4_begin_139 : decode cX4_begin 139 = .ok (.iload_n 1, 1) := by decide +kernel
theorem dX4_begin_140 : decode cX4_begin 140 = .ok (.iconst 0, 1) := by decide +kernel
theorem dX4_begin_141 : decode cX4_begin 141 = .ok (.bastore, 1) := by decide +kernel
theorem dX4_begin_142 : decode cX4_begin 142 = .ok (.iconst 0, 1) := by decide +kernel
theorem dX4_begin_143 : decode cX4_begin 143 = .ok (.istore 6, 2) := by decide +kernel
theorem dX4_begin_145 : decode cX4_begin 145 = .ok (.iload 6, 2) := by decide +kernel
theorem dX4_begin_147 : decode cX4_begin 147 = .ok (.aload_n 0, 1) := by decide +kernel
theorem dX4_begin_148 : decode cX4_begin 148 = .ok (.getfield 108, 3) := by decide +kernel
theorem dX4_begin_151 : decode cX4_begin 151 = .ok (.if_icmp .ge 22, 3) := by decide +kernel
theorem dX4_begin_154 : decode cX4_begin 154 = .ok (.aload_n 0, 1) := by decide +kernel
theorem dX4_begin_155 : decode cX4_begin 155 = .ok (.getfield 69, 3) := by decide +kernel
theorem dX4_begin_158 : decode cX4_begin 158 = .ok (.bipush 31, 2) := by decide +kernel
theorem dX4_begin_160 : decode cX4_begin 160 = .ok (.iload_n 1, 1) := by decide +kernel
theorem dX4_begin_161 : decode cX4_begin 161 = .ok (.imul, 1) := by decide +kernel
theorem dX4_begin_162 : decode cX4_begin 162 = .ok (.iload 6, 2) := by decide +kernel
theorem dX4_begin_164 : decode cX4_begin 164 = .ok (.iadd, 1) := by decide +kernel
theorem dX4_begin_165 : decode cX4_begin 165 = .ok (.iconst 0, 1) := by decide +kernel
theorem dX4_begin_166 : decode cX4_begin 166 = .ok (.iastore, 1) := by decide +kernel
theorem dX4_begin_167 : decode cX4_begin 167 = .ok (.iinc 6 1, 3) := by decide +kernel
theorem dX4_begin_170 : decode cX4_begin 170 = .ok (.goto (-25), 3) := by decide +kernel
theorem dX4_begin_173 : decode cX4_begin 173 = .ok (.aload_n 0, 1) := by decide +kernel
theorem dX4_begin_174 : decode cX4_begin 174 = .ok (.iload_n 1, 1) := by decide +kernel
theorem dX4_begin_175 : decode cX4_begin 175 = .ok (.invokevirtual 139, 3) := by decide +kernel
theorem dX4_begin_178 : decode cX4_begin 178 = .ok (.iload 5, 2) := by decide +kernel
theorem dX4_begin_180 : decode cX4_begin 180 = .ok (.ireturn, 1) := by decide +kernel
theorem dX4_update_0 : decode cX4_update 0 = .ok (.aload_n 0, 1) := by decide +kernel
theorem dX4_update_1 : decode cX4_update 1 = .ok (.aload_n 0, 1) := by decide +kernel
theorem dX4_update_2 : decode cX4_update 2 = .ok (.iload_n 1, 1) := by decide +kernel
theorem dX4_update_3 : decode cX4_update 3 = .ok (.invokevirtual 143, 3) := by decide +kernel
theorem dX4_update_6 : decode cX4_update 6 = .ok (.ifCond .ne 7, 3) := by decide +kernel
theorem dX4_update_9 : decode cX4_update 9 = .ok (.iconst 1, 1) := by decide +kernel
theorem dX4_update_10 : decode cX4_update 10 = .ok (.goto 17, 3) := by decide +kernel
theorem dX4_update_13 : decode cX4_update 13 = .ok (.iload_n 2, 1) := by decide +kernel
theorem dX4_update_14 : decode cX4_update 14 = .ok (.ifCond .lt 8, 3) := by decide +kernel
theorem dX4_update_17 : decode cX4_update 17 = .ok (.iload_n 2, 1) := by decide +kernel
theorem dX4_update_18 : decode cX4_update 18 = .ok (.iconst 3, 1) := by decide +kernel
theorem dX4_update_19 : decode cX4_update 19 = .ok (.if_icmp .le 7, 3) := by decide +kernel
theorem dX4_update_22 : decode cX4_update 22 = .ok (.iconst 2, 1) := by decide +kernel
theorem dX4_update_23 : decode cX4_update 23 = .ok (.goto 4, 3) := by decide +kernel
theorem dX4_update_26 : decode cX4_update 26 = .ok (.iconst 0, 1) := by decide +kernel
theorem dX4_update_27 : decode cX4_update 27 = .ok (.putfield 112, 3) := by decide +kernel
theorem dX4_update_30 : decode cX4_update 30 = .ok (.aload_n 0, 1) := by decide +kernel
theorem dX4_update_31 : decode cX4_update 31 = .ok (.getfield 112, 3) := by decide +kernel
theorem dX4_update_34 : decode cX4_update 34 = .ok (.ifCond .le 7, 3) := by decide +kernel
theorem dX4_update_37 : decode cX4_update 37 = .ok (.iconst 0, 1) := by decide +kernel
theorem dX4_update_38 : decode cX4_update 38 = .ok (.goto 12, 3) := by decide +kernel
theorem dX4_update_41 : decode cX4_update 41 = .ok (.aload_n 0, 1) := by decide +kernel
theorem dX4_update_42 : decode cX4_update 42 = .ok (.iload_n 1, 1) := by decide +kernel
theorem dX4_update_43 : decode cX4_update 43 = .ok (.iload_n 2, 1) := by decide +kernel
theorem dX4_update_44 : decode cX4_update 44 = .ok (.iload_n 3, 1) := by decide +kernel
theorem dX4_update_45 : decode cX4_update 45 = .ok (.iload 4, 2) := by decide +kernel
theorem dX4_update_47 : decode cX4_update 47 = .ok (.invokevirtual 146, 3) := by decide +kernel
theorem dX4_update_50 : decode cX4_update 50 = .ok (.ireturn, 1) := by decide +kernel
theorem dX4_query_0 : decode cX4_query 0 = .ok (.aload_n 0, 1) := by decide +kernel
theorem dX4_query_1 : decode cX4_query 1 = .ok (.aload_n 0, 1) := by decide +kernel
theorem dX4_query_2 : decode cX4_query 2 = .ok (.iload_n 1, 1) := by decide +kernel
theorem dX4_query_3 : decode cX4_query 3 = .ok (.invokevirtual 143, 3) := by decide +kernel
theorem dX4_query_6 : decode cX4_query 6 = .ok (.ifCond .ne 7, 3) := by decide +kernel
theorem dX4_query_9 : decode cX4_query 9 = .ok (.iconst 1, 1) := by decide +kernel
theorem dX4_query_10 : decode cX4_query 10 = .ok (.goto 20, 3) := by decide +kernel
theorem dX4_query_13 : decode cX4_query 13 = .ok (.iload_n 2, 1) := by decide +kernel
theorem dX4_query_14 : decode cX4_query 14 = .ok (.bipush 10, 2) := by decide +kernel
theorem dX4_query_16 : decode cX4_query 16 = .ok (.if_icmp .lt 9, 3) := by decide +kernel
theorem dX4_query_19 : decode cX4_query 19 = .ok (.iload_n 2, 1) := by decide +kernel
theorem dX4_query_20 : decode cX4_query 20 = .ok (.bipush 15, 2) := by decide +kernel
theorem dX4_query_22 : decode cX4_query 22 = .ok (.if_icmp .le 7, 3) := by decide +kernel
theorem dX4_query_25 : decode cX4_query 25 = .ok (.iconst 2, 1) := by decide +kernel
theorem dX4_query_26 : decode cX4_query 26 = .ok (.goto 4, 3) := by decide +kernel
theorem dX4_query_29 : decode cX4_query 29 = .ok (.iconst 0, 1) := by decide +kernel
theorem dX4_query_30 : decode cX4_query 30 = .ok (.putfield 112, 3) := by decide +kernel
theorem dX4_query_33 : decode cX4_query 33 = .ok (.aload_n 0, 1) := by decide +kernel
theorem dX4_query_34 : decode cX4_query 34 = .ok (.getfield 112, 3) := by decide +kernel
theorem dX4_query_37 : decode cX4_query 37 = .ok (.ifCond .le 7, 3) := by decide +kernel
theorem dX4_query_40 : decode cX4_query 40 = .ok (.iconst 0, 1) := by decide +kernel
theorem dX4_query_41 : decode cX4_query 41 = .ok (.goto 11, 3) := by decide +kernel
theorem dX4_query_44 : decode cX4_query 44 = .ok (.aload_n 0, 1) := by decide +kernel
theorem dX4_query_45 : decode cX4_query 45 = .ok (.iload_n 1, 1) := by decide +kernel
theorem dX4_query_46 : decode cX4_query 46 = .ok (.iload_n 2, 1) := by decide +kernel
theorem dX4_query_47 : decode cX4_query 47 = .ok (.iload_n 3, 1) := by decide +kernel
theorem dX4_query_48 : decode cX4_query 48 = .ok (.iconst 0, 1) := by decide +kernel
theorem dX4_query_49 : decode cX4_query 49 = .ok (.invokevirtual 146, 3) := by decide +kernel
theorem dX4_query_52 : decode cX4_query 52 = .ok (.ireturn, 1) := by decide +kernel
theorem dX4_isSame_0 : decode cX4_isSame 0 = .ok (.iconst 0, 1) := by decide +kernel
theorem dX4_isSame_1 : decode cX4_isSame 1 = .ok (.istore_n 2, 1) := by decide +kernel
theorem dX4_isSame_2 : decode cX4_isSame 2 = .ok (.iload_n 2, 1) := by decide +kernel
theorem dX4_isSame_3 : decode cX4_isSame 3 = .ok (.aload_n 0, 1) := by decide +kernel
theorem dX4_isSame_4 : decode cX4_isSame 4 = .ok (.getfield 108, 3) := by decide +kernel
theorem dX4_isSame_7 : decode cX4_isSame 7 = .ok (.if_icmp .ge 36, 3) := by decide +kernel
theorem dX4_isSame_10 : decode cX4_isSame 10 = .ok (.aload_n 0, 1) := by decide +kernel
theorem dX4_isSame_11 : decode cX4_isSame 11 = .ok (.getfield 63, 3) := by decide +kernel
theorem dX4_isSame_14 : decode cX4_isSame 14 = .ok (.bipush 31, 2) := by decide +kernel
theorem dX4_isSame_16 : decode cX4_isSame 16 = .ok (.iload_n 1, 1) := by decide +kernel
theorem dX4_isSame_17 : decode cX4_isSame 17 = .ok (.imul, 1) := by decide +kernel
theorem dX4_isSame_18 : decode cX4_isSame 18 = .ok (.iload_n 2, 1) := by decide +kernel
theorem dX4_isSame_19 : decode cX4_isSame 19 = .ok (.iadd, 1) := by decide +kernel
theorem dX4_isSame_20 : decode cX4_isSame 20 = .ok (.iaload, 1) := by decide +kernel
theorem dX4_isSame_21 : decode cX4_isSame 21 = .ok (.aload_n 0, 1) := by decide +kernel
theorem dX4_isSame_22 : decode cX4_isSame 22 = .ok (.getfield 60, 3) := by decide +kernel
theorem dX4_isSame_25 : decode cX4_isSame 25 = .ok (.bipush 31, 2) := by decide +kernel
theorem dX4_isSame_27 : decode cX4_isSame 27 = .ok (.iload_n 1, 1) := by decide +kernel
theorem dX4_isSame_28 : decode cX4_isSame 28 = .ok (.imul, 1) := by decide +kernel
theorem dX4_isSame_29 : decode cX4_isSame 29 = .ok (.iload_n 2, 1) := by decide +kernel
theorem dX4_isSame_30 : decode cX4_isSame 30 = .ok (.iadd, 1) := by decide +kernel
theorem dX4_isSame_31 : decode cX4_isSame 31 = .ok (.iaload, 1) := by decide +kernel
theorem dX4_isSame_32 : decode cX4_isSame 32 = .ok (.if_icmp .eq 5, 3) := by decide +kernel
theorem dX4_isSame_35 : decode cX4_isSame 35 = .ok (.iconst 0, 1) := by decide +kernel
theorem dX4_isSame_36 : decode cX4_isSame 36 = .ok (.ireturn, 1) := by decide +kernel
theorem dX4_isSame_37 : decode cX4_isSame 37 = .ok (.iinc 2 1, 3) := by decide +kernel
theorem dX4_isSame_40 : decode cX4_isSame 40 = .ok (.goto (-38), 3) := by decide +kernel
theorem dX4_isSame_43 : decode cX4_isSame 43 = .ok (.iconst 1, 1) := by decide +kernel
theorem dX4_isSame_44 : decode cX4_isSame 44 = .ok (.ireturn, 1) := by decide +kernel
theorem dX4_movedTwice_0 : decode cX4_movedTwice 0 = .ok (.iconst 0, 1) := by decide +kernel
theorem dX4_movedTwice_1 : decode cX4_movedTwice 1 = .ok (.istore_n 2, 1) := by decide +kernel
theorem dX4_movedTwice_2 : decode cX4_movedTwice 2 = .ok (.iload_n 2, 1) := by decide +kernel
theorem dX4_movedTwice_3 : decode cX4_movedTwice 3 = .ok (.aload_n 0, 1) := by decide +kernel
theorem dX4_movedTwice_4 : decode cX4_movedTwice 4 = .ok (.getfield 108, 3) := by decide +kernel
theorem dX4_movedTwice_7 : decode cX4_movedTwice 7 = .ok (.if_icmp .ge 67, 3) := by decide +kernel
theorem dX4_movedTwice_10 : decode cX4_movedTwice 10 = .ok (.aload_n 0, 1) := by decide +kernel
theorem dX4_movedTwice_11 : decode cX4_movedTwice 11 = .ok (.getfield 63, 3) := by decide +kernel
theorem dX4_movedTwice_14 : decode cX4_movedTwice 14 = .ok (.bipush 31, 2) := by decide +kernel
theorem dX4_movedTwice_16 : decode cX4_movedTwice 16 = .ok (.iload_n 1, 1) := by decide +kernel
theorem dX4_movedTwice_17 : decode cX4_movedTwice 17 = .ok (.imul, 1) := by decide +kernel
theorem dX4_movedTwice_18 : decode cX4_movedTwice 18 = .ok (.iload_n 2, 1) := by decide +kernel
theorem dX4_movedTwice_19 : decode cX4_movedTwice 19 = .ok (.iadd, 1) := by decide +kernel
theorem dX4_movedTwice_20 : decode cX4_movedTwice 20 = .ok (.iaload, 1) := by decide +kernel
theorem dX4_movedTwice_21 : decode cX4_movedTwice 21 = .ok (.aload_n 0, 1) := by decide +kernel
theorem dX4_movedTwice_22 : decode cX4_movedTwice 22 = .ok (.getfield 60, 3) := by decide +kernel
theorem dX4_movedTwice_25 : decode cX4_movedTwice 25 = .ok (.bipush 31, 2) := by decide +kernel
theorem dX4_movedTwice_27 : decode cX4_movedTwice 27 = .ok (.iload_n 1, 1) := by decide +kernel
theorem dX4_movedTwice_28 : decode cX4_movedTwice 28 = .ok (.imul, 1) := by decide +kernel
theorem dX4_movedTwice_29 : decode cX4_movedTwice 29 = .ok (.iload_n 2, 1) := by decide +kernel
theorem dX4_movedTwice_30 : decode cX4_movedTwice 30 = .ok (.iadd, 1) := by decide +kernel
theorem dX4_movedTwice_31 : decode cX4_movedTwice 31 = .ok (.iaload, 1) := by decide +kernel
theorem dX4_movedTwice_32 : decode cX4_movedTwice 32 = .ok (.if_icmp .eq 7, 3) := by decide +kernel
theorem dX4_movedTwice_35 : decode cX4_movedTwice 35 = .ok (.iconst 1, 1) := by decide +kernel
theorem dX4_movedTwice_36 : decode cX4_movedTwice 36 = .ok (.goto 4, 3) := by decide +kernel
theorem dX4_movedTwice_39 : decode cX4_movedTwice 39 = .ok (.iconst 0, 1) := by decide +kernel
theorem dX4_movedTwice_40 : decode cX4_movedTwice 40 = .ok (.istore_n 3, 1) := by decide +kernel
theorem dX4_movedTwice_41 : decode cX4_movedTwice 41 = .ok (.aload_n 0, 1) := by decide +kernel
theorem dX4_movedTwice_42 : decode cX4_movedTwice 42 = .ok (.getfield 69, 3) := by decide +kernel
theorem dX4_movedTwice_45 : decode cX4_movedTwice 45 = .ok (.bipush 31, 2) := by decide +kernel
theorem dX4_movedTwice_47 : decode cX4_movedTwice 47 = .ok (.iload_n 1, 1) := by decide +kernel
theorem dX4_movedTwice_48 : decode cX4_movedTwice 48 = .ok (.imul, 1) := by decide +kernel
theorem dX4_movedTwice_49 : decode cX4_movedTwice 49 = .ok (.iload_n 2, 1) := by decide +kernel
theorem dX4_movedTwice_50 : decode cX4_movedTwice 50 = .ok (.iadd, 1) := by decide +kernel
theorem dX4_movedTwice_51 : decode cX4_movedTwice 51 = .ok (.iaload, 1) := by decide +kernel
theorem dX4_movedTwice_52 : decode cX4_movedTwice 52 = .ok (.iload_n 3, 1) := by decide +kernel
theorem dX4_movedTwice_53 : decode cX4_movedTwice 53 = .ok (.ifCond .eq 7, 3) := by decide +kernel
theorem dX4_movedTwice_56 : decode cX4_movedTwice 56 = .ok (.iconst 1, 1) := by decide +kernel
theorem dX4_movedTwice_57 : decode cX4_movedTwice 57 = .ok (.goto 4, 3) := by decide +kernel
theorem dX4_movedTwice_60 : decode cX4_movedTwice 60 = .ok (.iconst 0, 1) := by decide +kernel
theorem dX4_movedTwice_61 : decode cX4_movedTwice 61 = .ok (.iadd, 1) := by decide +kernel
theorem dX4_movedTwice_62 : decode cX4_movedTwice 62 = .ok (.iconst 2, 1) := by decide +kernel
theorem dX4_movedTwice_63 : decode cX4_movedTwice 63 = .ok (.if_icmp .lt 5, 3) := by decide +kernel
theorem dX4_movedTwice_66 : decode cX4_movedTwice 66 = .ok (.iload_n 2, 1) := by decide +kernel
theorem dX4_movedTwice_67 : decode cX4_movedTwice 67 = .ok (.ireturn, 1) := by decide +kernel
theorem dX4_movedTwice_68 : decode cX4_movedTwice 68 = .ok (.iinc 2 1, 3) := by decide +kernel
theorem dX4_movedTwice_71 : decode cX4_movedTwice 71 = .ok (.goto (-69), 3) := by decide +kernel
theorem dX4_movedTwice_74 : decode cX4_movedTwice 74 = .ok (.iconst (-1), 1) := by decide +kernel
theorem dX4_movedTwice_75 : decode cX4_movedTwice 75 = .ok (.ireturn, 1) := by decide +kernel
