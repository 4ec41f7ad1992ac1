theorem dX0_init_0 : decode cX0_init 0 = .ok (.aload_n 0, 1) := by decide +kernel
theorem dX0_init_1 : decode cX0_init 1 = .ok (.invokespecial 3, 3) := by decide +kernel
theorem dX0_init_4 : decode cX0_init 4 = .ok (.aload_n 0, 1) := by decide +kernel
theorem dX0_init_5 : decode cX0_init 5 = .ok (.iconst 1, 1) := by decide +kernel
theorem dX0_init_6 : decode cX0_init 6 = .ok (.putfield 9, 3) := by decide +kernel
theorem dX0_init_9 : decode cX0_init 9 = .ok (.aload_n 0, 1) := by decide +kernel
theorem dX0_init_10 : decode cX0_init 10 = .ok (.iconst 0, 1) := by decide +kernel
theorem dX0_init_11 : decode cX0_init 11 = .ok (.putfield 15, 3) := by decide +kernel
theorem dX0_init_14 : decode cX0_init 14 = .ok (.aload_n 0, 1) := by decide +kernel
theorem dX0_init_15 : decode cX0_init 15 = .ok (.iload_n 1, 1) := by decide +kernel
theorem dX0_init_16 : decode cX0_init 16 = .ok (.putfield 19, 3) := by decide +kernel
theorem dX0_init_19 : decode cX0_init 19 = .ok (.aload_n 0, 1) := by decide +kernel
theorem dX0_init_20 : decode cX0_init 20 = .ok (.iload_n 2, 1) := by decide +kernel
theorem dX0_init_21 : decode cX0_init 21 = .ok (.newarray .int, 2) := by decide +kernel
theorem dX0_init_23 : decode cX0_init 23 = .ok (.putfield 22, 3) := by decide +kernel
theorem dX0_init_26 : decode cX0_init 26 = .ok (.aload_n 0, 1) := by decide +kernel
theorem dX0_init_27 : decode cX0_init 27 = .ok (.iload_n 2, 1) := by decide +kernel
theorem dX0_init_28 : decode cX0_init 28 = .ok (.newarray .int, 2) := by decide +kernel
theorem dX0_init_30 : decode cX0_init 30 = .ok (.putfield 26, 3) := by decide +kernel
theorem dX0_init_33 : decode cX0_init 33 = .ok (.aload_n 0, 1) := by decide +kernel
theorem dX0_init_34 : decode cX0_init 34 = .ok (.iload_n 2, 1) := by decide +kernel
theorem dX0_init_35 : decode cX0_init 35 = .ok (.newarray .int, 2) := by decide +kernel
theorem dX0_init_37 : decode cX0_init 37 = .ok (.putfield 29, 3) := by decide +kernel
theorem dX0_init_40 : decode cX0_init 40 = .ok (.aload_n 0, 1) := by decide +kernel
theorem dX0_init_41 : decode cX0_init 41 = .ok (.iload_n 2, 1) := by decide +kernel
theorem dX0_init_42 : decode cX0_init 42 = .ok (.newarray .int, 2) := by decide +kernel
theorem dX0_init_44 : decode cX0_init 44 = .ok (.putfield 32, 3) := by decide +kernel
theorem dX0_init_47 : decode cX0_init 47 = .ok (.aload_n 0, 1) := by decide +kernel
theorem dX0_init_48 : decode cX0_init 48 = .ok (.iload_n 2, 1) := by decide +kernel
theorem dX0_init_49 : decode cX0_init 49 = .ok (.newarray .int, 2) := by decide +kernel
theorem dX0_init_51 : decode cX0_init 51 = .ok (.putfield 35, 3) := by decide +kernel
theorem dX0_init_54 : decode cX0_init 54 = .ok (.return_, 1) := by decide +kernel
theorem dX0_takeUp_0 : decode cX0_takeUp 0 = .ok (.aload_n 0, 1) := by decide +kernel
theorem dX0_takeUp_1 : decode cX0_takeUp 1 = .ok (.aload_n 1, 1) := by decide +kernel
theorem dX0_takeUp_2 : decode cX0_takeUp 2 = .ok (.putfield 38, 3) := by decide +kernel
theorem dX0_takeUp_5 : decode cX0_takeUp 5 = .ok (.iconst 0, 1) := by decide +kernel
theorem dX0_takeUp_6 : decode cX0_takeUp 6 = .ok (.istore_n 2, 1) := by decide +kernel
theorem dX0_takeUp_7 : decode cX0_takeUp 7 = .ok (.iload_n 2, 1) := by decide +kernel
theorem dX0_takeUp_8 : decode cX0_takeUp 8 = .ok (.aload_n 0, 1) := by decide +kernel
theorem dX0_takeUp_9 : decode cX0_takeUp 9 = .ok (.getfield 32, 3) := by decide +kernel
theorem dX0_takeUp_12 : decode cX0_takeUp 12 = .ok (.arraylength, 1) := by decide +kernel
theorem dX0_takeUp_13 : decode cX0_takeUp 13 = .ok (.if_icmp .ge 16, 3) := by decide +kernel
theorem dX0_takeUp_16 : decode cX0_takeUp 16 = .ok (.aload_n 0, 1) := by decide +kernel
theorem dX0_takeUp_17 : decode cX0_takeUp 17 = .ok (.getfield 32, 3) := by decide +kernel
theorem dX0_takeUp_20 : decode cX0_takeUp 20 = .ok (.iload_n 2, 1) := by decide +kernel
theorem dX0_takeUp_21 : decode cX0_takeUp 21 = .ok (.iconst 0, 1) := by decide +kernel
theorem dX0_takeUp_22 : decode cX0_takeUp 22 = .ok (.iastore, 1) := by decide +kernel
theorem dX0_takeUp_23 : decode cX0_takeUp 23 = .ok (.iinc 2 1, 3) := by decide +kernel
theorem dX0_takeUp_26 : decode cX0_takeUp 26 = .ok (.goto (-19), 3) := by decide +kernel
theorem dX0_takeUp_29 : decode cX0_takeUp 29 = .ok (.return_, 1) := by decide +kernel
theorem dX0_enter_0 : decode cX0_enter 0 = .ok (.aload_n 0, 1) := by decide +kernel
theorem dX0_enter_1 : decode cX0_enter 1 = .ok (.iload_n 1, 1) := by decide +kernel
theorem dX0_enter_2 : decode cX0_enter 2 = .ok (.putfield 15, 3) := by decide +kernel
theorem dX0_enter_5 : decode cX0_enter 5 = .ok (.aload_n 0, 1) := by decide +kernel
theorem dX0_enter_6 : decode cX0_enter 6 = .ok (.dup, 1) := by decide +kernel
theorem dX0_enter_7 : decode cX0_enter 7 = .ok (.getfield 42, 3) := by decide +kernel
theorem dX0_enter_10 : decode cX0_enter 10 = .ok (.iconst 1, 1) := by decide +kernel
theorem dX0_enter_11 : decode cX0_enter 11 = .ok (.iadd, 1) := by decide +kernel
theorem dX0_enter_12 : decode cX0_enter 12 = .ok (.putfield 42, 3) := by decide +kernel
theorem dX0_enter_15 : decode cX0_enter 15 = .ok (.aload_n 0, 1) := by decide +kernel
theorem dX0_enter_16 : decode cX0_enter 16 = .ok (.iconst 0, 1) := by decide +kernel
theorem dX0_enter_17 : decode cX0_enter 17 = .ok (.putfield 45, 3) := by decide +kernel
theorem dX0_enter_20 : decode cX0_enter 20 = .ok (.return_, 1) := by decide +kernel
theorem dX0_rest_0 : decode cX0_rest 0 = .ok (.aload_n 0, 1) := by decide +kernel
theorem dX0_rest_1 : decode cX0_rest 1 = .ok (.iconst 0, 1) := by decide +kernel
theorem dX0_rest_2 : decode cX0_rest 2 = .ok (.putfield 15, 3) := by decide +kernel
theorem dX0_rest_5 : decode cX0_rest 5 = .ok (.aload_n 0, 1) := by decide +kernel
theorem dX0_rest_6 : decode cX0_rest 6 = .ok (.iconst 0, 1) := by decide +kernel
theorem dX0_rest_7 : decode cX0_rest 7 = .ok (.putfield 45, 3) := by decide +kernel
theorem dX0_rest_10 : decode cX0_rest 10 = .ok (.aload_n 0, 1) := by decide +kernel
theorem dX0_rest_11 : decode cX0_rest 11 = .ok (.aconst_null, 1) := by decide +kernel
theorem dX0_rest_12 : decode cX0_rest 12 = .ok (.putfield 38, 3) := by decide +kernel
theorem dX0_rest_15 : decode cX0_rest 15 = .ok (.return_, 1) := by decide +kernel
theorem dX0_clearCurrent_0 : decode cX0_clearCurrent 0 = .ok (.iconst 0, 1) := by decide +kernel
theorem dX0_clearCurrent_1 : decode cX0_clearCurrent 1 = .ok (.istore_n 1, 1) := by decide +kernel
theorem dX0_clearCurrent_2 : decode cX0_clearCurrent 2 = .ok (.iload_n 1, 1) := by decide +kernel
theorem dX0_clearCurrent_3 : decode cX0_clearCurrent 3 = .ok (.aload_n 0, 1) := by decide +kernel
theorem dX0_clearCurrent_4 : decode cX0_clearCurrent 4 = .ok (.getfield 26, 3) := by decide +kernel
theorem dX0_clearCurrent_7 : decode cX0_clearCurrent 7 = .ok (.arraylength, 1) := by decide +kernel
theorem dX0_clearCurrent_8 : decode cX0_clearCurrent 8 = .ok (.if_icmp .ge 16, 3) := by decide +kernel
theorem dX0_clearCurrent_11 : decode cX0_clearCurrent 11 = .ok (.aload_n 0, 1) := by decide +kernel
theorem dX0_clearCurrent_12 : decode cX0_clearCurrent 12 = .ok (.getfield 26, 3) := by decide +kernel
theorem dX0_clearCurrent_15 : decode cX0_clearCurrent 15 = .ok (.iload_n 1, 1) := by decide +kernel
theorem dX0_clearCurrent_16 : decode cX0_clearCurrent 16 = .ok (.iconst 0, 1) := by decide +kernel
theorem dX0_clearCurrent_17 : decode cX0_clearCurrent 17 = .ok (.iastore, 1) := by decide +kernel
theorem dX0_clearCurrent_18 : decode cX0_clearCurrent 18 = .ok (.iinc 1 1, 3) := by decide +kernel
theorem dX0_clearCurrent_21 : decode cX0_clearCurrent 21 = .ok (.goto (-19), 3) := by decide +kernel
theorem dX0_clearCurrent_24 : decode cX0_clearCurrent 24 = .ok (.return_, 1) := by decide +kernel
theorem dX0_lengthenLog_0 : decode cX0_lengthenLog 0 = .ok (.aload_n 0, 1) := by decide +kernel
theorem dX0_lengthenLog_1 : decode cX0_lengthenLog 1 = .ok (.getfield 35, 3) := by decide +kernel
theorem dX0_lengthenLog_4 : decode cX0_lengthenLog 4 = .ok (.aload_n 0, 1) := by decide +kernel
theorem dX0_lengthenLog_5 : decode cX0_lengthenLog 5 = .ok (.getfield 19, 3) := by decide +kernel
theorem dX0_lengthenLog_8 : decode cX0_lengthenLog 8 = .ok (.dup2, 1) := by decide +kernel
theorem dX0_lengthenLog_9 : decode cX0_lengthenLog 9 = .ok (.iaload, 1) := by decide +kernel
theorem dX0_lengthenLog_10 : decode cX0_lengthenLog 10 = .ok (.iconst 1, 1) := by decide +kernel
theorem dX0_lengthenLog_11 : decode cX0_lengthenLog 11 = .ok (.iadd, 1) := by decide +kernel
theorem dX0_lengthenLog_12 : decode cX0_lengthenLog 12 = .ok (.iastore, 1) := by decide +kernel
theorem dX0_lengthenLog_13 : decode cX0_lengthenLog 13 = .ok (.aload_n 0, 1) := by decide +kernel
theorem dX0_lengthenLog_14 : decode cX0_lengthenLog 14 = .ok (.getfield 35, 3) := by decide +kernel
theorem dX0_lengthenLog_17 : decode cX0_lengthenLog 17 = .ok (.aload_n 0, 1) := by decide +kernel
theorem dX0_lengthenLog_18 : decode cX0_lengthenLog 18 = .ok (.getfield 19, 3) := by decide +kernel
theorem dX0_lengthenLog_21 : decode cX0_lengthenLog 21 = .ok (.iaload, 1) := by decide +kernel
theorem dX0_lengthenLog_22 : decode cX0_lengthenLog 22 = .ok (.ireturn, 1) := by decide +kernel
theorem dX0_isMajority_0 : decode cX0_isMajority 0 = .ok (.iconst 2, 1) := by decide +kernel
theorem dX0_isMajority_1 : decode cX0_isMajority 1 = .ok (.iload_n 1, 1) := by decide +kernel
theorem dX0_isMajority_2 : decode cX0_isMajority 2 = .ok (.imul, 1) := by decide +kernel
theorem dX0_isMajority_3 : decode cX0_isMajority 3 = .ok (.aload_n 0, 1) := by decide +kernel
theorem dX0_isMajority_4 : decode cX0_isMajority 4 = .ok (.getfield 22, 3) := by decide +kernel
theorem dX0_isMajority_7 : decode cX0_isMajority 7 = .ok (.arraylength, 1) := by decide +kernel
theorem dX0_isMajority_8 : decode cX0_isMajority 8 = .ok (.if_icmp .le 7, 3) := by decide +kernel
theorem dX0_isMajority_11 : decode cX0_isMajority 11 = .ok (.iconst 1, 1) := by decide +kernel
theorem dX0_isMajority_12 : decode cX0_isMajority 12 = .ok (.goto 4, 3) := by decide +kernel
theorem dX0_isMajority_15 : decode cX0_isMajority 15 = .ok (.iconst 0, 1) := by decide +kernel
theorem dX0_isMajority_16 : decode cX0_isMajority 16 = .ok (.ireturn, 1) := by decide +kernel
theorem dX0_waitsFor_0 : decode cX0_waitsFor 0 = .ok (.iload_n 2, 1) := by decide +kernel
theorem dX0_waitsFor_1 : decode cX0_waitsFor 1 = .ok (.aload_n 0, 1) := by decide +kernel
theorem dX0_waitsFor_2 : decode cX0_waitsFor 2 = .ok (.getfield 42, 3) := by decide +kernel
theorem dX0_waitsFor_5 : decode cX0_waitsFor 5 = .ok (.if_icmp .eq 5, 3) := by decide +kernel
theorem dX0_waitsFor_8 : decode cX0_waitsFor 8 = .ok (.iconst 0, 1) := by decide +kernel
theorem dX0_waitsFor_9 : decode cX0_waitsFor 9 = .ok (.ireturn, 1) := by decide +kernel
theorem dX0_waitsFor_10 : decode cX0_waitsFor 10 = .ok (.iload_n 1, 1) := by decide +kernel
theorem dX0_waitsFor_11 : decode cX0_waitsFor 11 = .ok (.iconst 1, 1) := by decide +kernel
theorem dX0_waitsFor_12 : decode cX0_waitsFor 12 = .ok (.if_icmp .ne 19, 3) := by decide +kernel
theorem dX0_waitsFor_15 : decode cX0_waitsFor 15 = .ok (.aload_n 0, 1) := by decide +kernel
theorem dX0_waitsFor_16 : decode cX0_waitsFor 16 = .ok (.getfield 15, 3) := by decide +kernel
theorem dX0_waitsFor_19 : decode cX0_waitsFor 19 = .ok (.iconst 1, 1) := by decide +kernel
theorem dX0_waitsFor_20 : decode cX0_waitsFor 20 = .ok (.if_icmp .ne 7, 3) := by decide +kernel
theorem dX0_waitsFor_23 : decode cX0_waitsFor 23 = .ok (.iconst 1, 1) := by decide +kernel
theorem dX0_waitsFor_24 : decode cX0_waitsFor 24 = .ok (.goto 33, 3) := by decide +kernel
theorem dX0_waitsFor_27 : decode cX0_waitsFor 27 = .ok (.iconst 0, 1) := by decide +kernel
theorem dX0_waitsFor_28 : decode cX0_waitsFor 28 = .ok (.goto 29, 3) := by decide +kernel
theorem dX0_waitsFor_31 : decode cX0_waitsFor 31 = .ok (.iload_n 1, 1) := by decide +kernel
theorem dX0_waitsFor_32 : decode cX0_waitsFor 32 = .ok (.iconst 3, 1) := by decide +kernel
theorem dX0_waitsFor_33 : decode cX0_waitsFor 33 = .ok (.if_icmp .ne 23, 3) := by decide +kernel
theorem dX0_waitsFor_36 : decode cX0_waitsFor 36 = .ok (.aload_n 0, 1) := by decide +kernel
theorem dX0_waitsFor_37 : decode cX0_waitsFor 37 = .ok (.getfield 15, 3) := by decide +kernel
theorem dX0_waitsFor_40 : decode cX0_waitsFor 40 = .ok (.iconst 2, 1) := by decide +kernel
theorem dX0_waitsFor_41 : decode cX0_waitsFor 41 = .ok (.if_icmp .eq 11, 3) := by decide +kernel
theorem dX0_waitsFor_44 : decode cX0_waitsFor 44 = .ok (.aload_n 0, 1) := by decide +kernel
theorem dX0_waitsFor_45 : decode cX0_waitsFor 45 = .ok (.getfield 15, 3) := by decide +kernel
theorem dX0_waitsFor_48 : decode cX0_waitsFor 48 = .ok (.iconst 3, 1) := by decide +kernel
theorem dX0_waitsFor_49 : decode cX0_waitsFor 49 = .ok (.if_icmp .ne 7, 3) := by decide +kernel
theorem dX0_waitsFor_52 : decode cX0_waitsFor 52 = .ok (.iconst 1, 1) := by decide +kernel
theorem dX0_waitsFor_53 : decode cX0_waitsFor 53 = .ok (.goto 4, 3) := by decide +kernel
theorem dX0_waitsFor_56 : decode cX0_waitsFor 56 = .ok (.iconst 0, 1) := by decide +kernel
theorem dX0_waitsFor_57 : decode cX0_waitsFor 57 = .ok (.ireturn, 1) := by decide +kernel
theorem dX0_collectsAreAlike_0 : decode cX0_collectsAreAlike 0 = .ok (.iconst 0, 1) := by decide +kernel
theorem dX0_collectsAreAlike_1 : decode cX0_collectsAreAlike 1 = .ok (.istore_n 1, 1) := by decide +kernel
theorem dX0_collectsAreAlike_2 : decode cX0_collectsAreAlike 2 = .ok (.iload_n 1, 1) := by decide +kernel
theorem dX0_collectsAreAlike_3 : decode cX0_collectsAreAlike 3 = .ok (.aload_n 0, 1) := by decide +kernel
theorem dX0_collectsAreAlike_4 : decode cX0_collectsAreAlike 4 = .ok (.getfield 26, 3) := by decide +kernel
theorem dX0_collectsAreAlike_7 : decode cX0_collectsAreAlike 7 = .ok (.arraylength, 1) := by decide +kernel
theorem dX0_collectsAreAlike_8 : decode cX0_collectsAreAlike 8 = .ok (.if_icmp .ge 26, 3) := by decide +kernel
theorem dX0_collectsAreAlike_11 : decode cX0_collectsAreAlike 11 = .ok (.aload_n 0, 1) := by decide +kernel
theorem dX0_collectsAreAlike_12 : decode cX0_collectsAreAlike 12 = .ok (.getfield 26, 3) := by decide +kernel
theorem dX0_collectsAreAlike_15 : decode cX0_collectsAreAlike 15 = .ok (.iload_n 1, 1) := by decide +kernel
theorem dX0_collectsAreAlike_16 : decode cX0_collectsAreAlike 16 = .ok (.iaload, 1) := by decide +kernel
theorem dX0_collectsAreAlike_17 : decode cX0_collectsAreAlike 17 = .ok (.aload_n 0, 1) := by decide +kernel
theorem dX0_collectsAreAlike_18 : decode cX0_collectsAreAlike 18 = .ok (.getfield 29, 3) := by decide +kernel
theorem dX0_collectsAreAlike_21 : decode cX0_collectsAreAlike 21 = .ok (.iload_n 1, 1) := by decide +kernel
theorem dX0_collectsAreAlike_22 : decode cX0_collectsAreAlike 22 = .ok (.iaload, 1) := by decide +kernel
theorem dX0_collectsAreAlike_23 : decode cX0_collectsAreAlike 23 = .ok (.if_icmp .eq 5, 3) := by decide +kernel
theorem dX0_collectsAreAlike_26 : decode cX0_collectsAreAlike 26 = .ok (.iconst 0, 1) := by decide +kernel
theorem dX0_collectsAreAlike_27 : decode cX0_collectsAreAlike 27 = .ok (.ireturn, 1) := by decide +kernel
theorem dX0_collectsAreAlike_28 : decode cX0_collectsAreAlike 28 = .ok (.iinc 1 1, 3) := by decide +kernel
theorem dX0_collectsAreAlike_31 : decode cX0_collectsAreAlike 31 = .ok (.goto (-29), 3) := by decide +kernel
theorem dX0_collectsAreAlike_34 : decode cX0_collectsAreAlike 34 = .ok (.iconst 1, 1) := by decide +kernel
theorem dX0_collectsAreAlike_35 : decode cX0_collectsAreAlike 35 = .ok (.ireturn, 1) := by decide +kernel
theorem dX0_leastThatMovedTwice_0 : decode cX0_leastThatMovedTwice 0 = .ok (.iconst 0, 1) := by decide +kernel
theorem dX0_leastThatMovedTwice_1 : decode cX0_leastThatMovedTwice 1 = .ok (.istore_n 1, 1) := by decide +kernel
theorem dX0_leastThatMovedTwice_2 : decode cX0_leastThatMovedTwice 2 = .ok (.iload_n 1, 1) := by decide +kernel
theorem dX0_leastThatMovedTwice_3 : decode cX0_leastThatMovedTwice 3 = .ok (.aload_n 0, 1) := by decide +kernel
theorem dX0_leastThatMovedTwice_4 : decode cX0_leastThatMovedTwice 4 = .ok (.getfield 26, 3) := by decide +kernel
theorem dX0_leastThatMovedTwice_7 : decode cX0_leastThatMovedTwice 7 = .ok (.arraylength, 1) := by decide +kernel
theorem dX0_leastThatMovedTwice_8 : decode cX0_leastThatMovedTwice 8 = .ok (.if_icmp .ge 35, 3) := by decide +kernel
theorem dX0_leastThatMovedTwice_11 : decode cX0_leastThatMovedTwice 11 = .ok (.aload_n 0, 1) := by decide +kernel
theorem dX0_leastThatMovedTwice_12 : decode cX0_leastThatMovedTwice 12 = .ok (.getfield 32, 3) := by decide +kernel
theorem dX0_leastThatMovedTwice_15 : decode cX0_leastThatMovedTwice 15 = .ok (.iload_n 1, 1) := by decide +kernel
theorem dX0_leastThatMovedTwice_16 : decode cX0_leastThatMovedTwice 16 = .ok (.iaload, 1) := by decide +kernel
theorem dX0_leastThatMovedTwice_17 : decode cX0_leastThatMovedTwice 17 = .ok (.ifCond .le 20, 3) := by decide +kernel
theorem dX0_leastThatMovedTwice_20 : decode cX0_leastThatMovedTwice 20 = .ok (.aload_n 0, 1) := by decide +kernel
theorem dX0_leastThatMovedTwice_21 : decode cX0_leastThatMovedTwice 21 = .ok (.getfield 26, 3) := by decide +kernel
theorem dX0_leastThatMovedTwice_24 : decode cX0_leastThatMovedTwice 24 = .ok (.iload_n 1, 1) := by decide +kernel
theorem dX0_leastThatMovedTwice_25 : decode cX0_leastThatMovedTwice 25 = .ok (.iaload, 1) := by decide +kernel
theorem dX0_leastThatMovedTwice_26 : decode cX0_leastThatMovedTwice 26 = .ok (.aload_n 0, 1) := by decide +kernel
theorem dX0_leastThatMovedTwice_27 : decode cX0_leastThatMovedTwice 27 = .ok (.getfield 29, 3) := by decide +kernel
theorem dX0_leastThatMovedTwice_30 : decode cX0_leastThatMovedTwice 30 = .ok (.iload_n 1, 1) := by decide +kernel
theorem dX0_leastThatMovedTwice_31 : decode cX0_leastThatMovedTwice 31 = .ok (.iaload, 1) := by decide +kernel
theorem dX0_leastThatMovedTwice_32 : decode cX0_leastThatMovedTwice 32 = .ok (.if_icmp .eq 5, 3) := by decide +kernel
theorem dX0_leastThatMovedTwice_35 : decode cX0_leastThatMovedTwice 35 = .ok (.iload_n 1, 1) := by decide +kernel
theorem dX0_leastThatMovedTwice_36 : decode cX0_leastThatMovedTwice 36 = .ok (.ireturn, 1) := by decide +kernel
theorem dX0_leastThatMovedTwice_37 : decode cX0_leastThatMovedTwice 37 = .ok (.iinc 1 1, 3) := by decide +kernel
theorem dX0_leastThatMovedTwice_40 : decode cX0_leastThatMovedTwice 40 = .ok (.goto (-38), 3) := by decide +kernel
theorem dX0_leastThatMovedTwice_43 : decode cX0_leastThatMovedTwice 43 = .ok (.iconst (-1), 1) := by decide +kernel
theorem dX0_leastThatMovedTwice_44 : decode cX0_leastThatMovedTwice 44 = .ok (.ireturn, 1) := by decide +kernel
theorem dX0_rememberCollect_0 : decode cX0_rememberCollect 0 = .ok (.iconst 0, 1) := by decide +kernel
theorem dX0_rememberCollect_1 : decode cX0_rememberCollect 1 = .ok (.istore_n 2, 1) := by decide +kernel
theorem dX0_rememberCollect_2 : decode cX0_rememberCollect 2 = .ok (.iload_n 2, 1) := by decide +kernel
theorem dX0_rememberCollect_3 : decode cX0_rememberCollect 3 = .ok (.aload_n 0, 1) := by decide +kernel
theorem dX0_rememberCollect_4 : decode cX0_rememberCollect 4 = .ok (.getfield 26, 3) := by decide +kernel
theorem dX0_rememberCollect_7 : decode cX0_rememberCollect 7 = .ok (.arraylength, 1) := by decide +kernel
theorem dX0_rememberCollect_8 : decode cX0_rememberCollect 8 = .ok (.if_icmp .ge 50, 3) := by decide +kernel
theorem dX0_rememberCollect_11 : decode cX0_rememberCollect 11 = .ok (.iload_n 1, 1) := by decide +kernel
theorem dX0_rememberCollect_12 : decode cX0_rememberCollect 12 = .ok (.ifCond .ne 28, 3) := by decide +kernel
theorem dX0_rememberCollect_15 : decode cX0_rememberCollect 15 = .ok (.aload_n 0, 1) := by decide +kernel
theorem dX0_rememberCollect_16 : decode cX0_rememberCollect 16 = .ok (.getfield 26, 3) := by decide +kernel
theorem dX0_rememberCollect_19 : decode cX0_rememberCollect 19 = .ok (.iload_n 2, 1) := by decide +kernel
theorem dX0_rememberCollect_20 : decode cX0_rememberCollect 20 = .ok (.iaload, 1) := by decide +kernel
theorem dX0_rememberCollect_21 : decode cX0_rememberCollect 21 = .ok (.aload_n 0, 1) := by decide +kernel
theorem dX0_rememberCollect_22 : decode cX0_rememberCollect 22 = .ok (.getfield 29, 3) := by decide +kernel
theorem dX0_rememberCollect_25 : decode cX0_rememberCollect 25 = .ok (.iload_n 2, 1) := by decide +kernel
theorem dX0_rememberCollect_26 : decode cX0_rememberCollect 26 = .ok (.iaload, 1) := by decide +kernel
theorem dX0_rememberCollect_27 : decode cX0_rememberCollect 27 = .ok (.if_icmp .eq 13, 3) := by decide +kernel
theorem dX0_rememberCollect_30 : decode cX0_rememberCollect 30 = .ok (.aload_n 0, 1) := by decide +kernel
theorem dX0_rememberCollect_31 : decode cX0_rememberCollect 31 = .ok (.getfield 32, 3) := by decide +kernel
theorem dX0_rememberCollect_34 : decode cX0_rememberCollect 34 = .ok (.iload_n 2, 1) := by decide +kernel
theorem dX0_rememberCollect_35 : decode cX0_rememberCollect 35 = .ok (.dup2, 1) := by decide +kernel
theorem dX0_rememberCollect_36 : decode cX0_rememberCollect 36 = .ok (.iaload, 1) := by decide +kernel
theorem dX0_rememberCollect_37 : decode cX0_rememberCollect 37 = .ok (.iconst 1, 1) := by decide +kernel
theorem dX0_rememberCollect_38 : decode cX0_rememberCollect 38 = .ok (.iadd, 1) := by decide +kernel
theorem dX0_rememberCollect_39 : decode cX0_rememberCollect 39 = .ok (.iastore, 1) := by decide +kernel
theorem dX0_rememberCollect_40 : decode cX0_rememberCollect 40 = .ok (.aload_n 0, 1) := by decide +kernel
theorem dX0_rememberCollect_41 : decode cX0_rememberCollect 41 = .ok (.getfield 29, 3) := by decide +kernel
theorem dX0_rememberCollect_44 : decode cX0_rememberCollect 44 = .ok (.iload_n 2, 1) := by decide +kernel
theorem dX0_rememberCollect_45 : decode cX0_rememberCollect 45 = .ok (.aload_n 0, 1) := by decide +kernel
theorem dX0_rememberCollect_46 : decode cX0_rememberCollect 46 = .ok (.getfield 26, 3) := by decide +kernel
theorem dX0_rememberCollect_49 : decode cX0_rememberCollect 49 = .ok (.iload_n 2, 1) := by decide +kernel
theorem dX0_rememberCollect_50 : decode cX0_rememberCollect 50 = .ok (.iaload, 1) := by decide +kernel
theorem dX0_rememberCollect_51 : decode cX0_rememberCollect 51 = .ok (.iastore, 1) := by decide +kernel
theorem dX0_rememberCollect_52 : decode cX0_rememberCollect 52 = .ok (.iinc 2 1, 3) := by decide +kernel
theorem dX0_rememberCollect_55 : decode cX0_rememberCollect 55 = .ok (.goto (-53), 3) := by decide +kernel
theorem dX0_rememberCollect_58 : decode cX0_rememberCollect 58 = .ok (.return_, 1) := by decide +kernel
theorem dX0_tell_0 : decode cX0_tell 0 = .ok (.iload_n 1, 1) := by decide +kernel
theorem dX0_tell_1 : decode cX0_tell 1 = .ok (.tableswitch 96 0 5 #[39, 52, 57, 62, 81, 86], 39) := by decide +kernel
theorem dX0_tell_40 : decode cX0_tell 40 = .ok (.aload_n 0, 1) := by decide +kernel
theorem dX0_tell_41 : decode cX0_tell 41 = .ok (.getfield 9, 3) := by decide +kernel
theorem dX0_tell_44 : decode cX0_tell 44 = .ok (.ifCond .eq 7, 3) := by decide +kernel
theorem dX0_tell_47 : decode cX0_tell 47 = .ok (.iconst 1, 1) := by decide +kernel
theorem dX0_tell_48 : decode cX0_tell 48 = .ok (.goto 4, 3) := by decide +kernel
theorem dX0_tell_51 : decode cX0_tell 51 = .ok (.iconst 0, 1) := by decide +kernel
theorem dX0_tell_52 : decode cX0_tell 52 = .ok (.ireturn, 1) := by decide +kernel
theorem dX0_tell_53 : decode cX0_tell 53 = .ok (.aload_n 0, 1) := by decide +kernel
theorem dX0_tell_54 : decode cX0_tell 54 = .ok (.getfield 15, 3) := by decide +kernel
theorem dX0_tell_57 : decode cX0_tell 57 = .ok (.ireturn, 1) := by decide +kernel
theorem dX0_tell_58 : decode cX0_tell 58 = .ok (.aload_n 0, 1) := by decide +kernel
theorem dX0_tell_59 : decode cX0_tell 59 = .ok (.getfield 42, 3) := by decide +kernel
theorem dX0_tell_62 : decode cX0_tell 62 = .ok (.ireturn, 1) := by decide +kernel
theorem dX0_tell_63 : decode cX0_tell 63 = .ok (.aload_n 0, 1) := by decide +kernel
theorem dX0_tell_64 : decode cX0_tell 64 = .ok (.getfield 38, 3) := by decide +kernel
theorem dX0_tell_67 : decode cX0_tell 67 = .ok (.ifnonnull 7, 3) := by decide +kernel
theorem dX0_tell_70 : decode cX0_tell 70 = .ok (.iconst 0, 1) := by decide +kernel
theorem dX0_tell_71 : decode cX0_tell 71 = .ok (.goto 10, 3) := by decide +kernel
theorem dX0_tell_74 : decode cX0_tell 74 = .ok (.aload_n 0, 1) := by decide +kernel
theorem dX0_tell_75 : decode cX0_tell 75 = .ok (.getfield 38, 3) := by decide +kernel
theorem dX0_tell_78 : decode cX0_tell 78 = .ok (.getfield 48, 3) := by decide +kernel
theorem dX0_tell_81 : decode cX0_tell 81 = .ok (.ireturn, 1) := by decide +kernel
theorem dX0_tell_82 : decode cX0_tell 82 = .ok (.aload_n 0, 1) := by decide +kernel
theorem dX0_tell_83 : decode cX0_tell 83 = .ok (.getfield 45, 3) := by decide +kernel
theorem dX0_tell_86 : decode cX0_tell 86 = .ok (.ireturn, 1) := by decide +kernel
theorem dX0_tell_87 : decode cX0_tell 87 = .ok (.aload_n 0, 1) := by decide +kernel
theorem dX0_tell_88 : decode cX0_tell 88 = .ok (.getfield 35, 3) := by decide +kernel
theorem dX0_tell_91 : decode cX0_tell 91 = .ok (.aload_n 0, 1) := by decide +kernel
theorem dX0_tell_92 : decode cX0_tell 92 = .ok (.getfield 19, 3) := by decide +kernel
theorem dX0_tell_95 : decode cX0_tell 95 = .ok (.iaload, 1) := by decide +kernel
theorem dX0_tell_96 : decode cX0_tell 96 = .ok (.ireturn, 1) := by decide +kernel
theorem dX0_tell_97 : decode cX0_tell 97 = .ok (.iconst (-1), 1) := by decide +kernel
theorem dX0_tell_98 : decode cX0_tell 98 = .ok (.ireturn, 1) := by decide +kernel
theorem dX1_init_0 : decode cX1_init 0 = .ok (.aload_n 0, 1) := by decide +kernel
theorem dX1_init_1 : decode cX1_init 1 = .ok (.invokespecial 3, 3) := by decide +kernel
theorem dX1_init_4 : decode cX1_init 4 = .ok (.aload_n 0, 1) := by decide +kernel
theorem dX1_init_5 : decode cX1_init 5 = .ok (.iconst (-1), 1) := by decide +kernel
theorem dX1_init_6 : decode cX1_init 6 = .ok (.putfield 9, 3) := by decide +kernel
theorem dX1_init_9 : decode cX1_init 9 = .ok (.aload_n 0, 1) := by decide +kernel
theorem dX1_init_10 : decode cX1_init 10 = .ok (.iconst (-1), 1) := by decide +kernel
theorem dX1_init_11 : decode cX1_init 11 = .ok (.putfield 15, 3) := by decide +kernel
theorem dX1_init_14 : decode cX1_init 14 = .ok (.aload_n 0, 1) := by decide +kernel
theorem dX1_init_15 : decode cX1_init 15 = .ok (.iload_n 1, 1) := by decide +kernel
theorem dX1_init_16 : decode cX1_init 16 = .ok (.putfield 18, 3) := by decide +kernel
theorem dX1_init_19 : decode cX1_init 19 = .ok (.aload_n 0, 1) := by decide +kernel
theorem dX1_init_20 : decode cX1_init 20 = .ok (.iload_n 2, 1) := by decide +kernel
theorem dX1_init_21 : decode cX1_init 21 = .ok (.putfield 21, 3) := by decide +kernel
theorem dX1_init_24 : decode cX1_init 24 = .ok (.aload_n 0, 1) := by decide +kernel
theorem dX1_init_25 : decode cX1_init 25 = .ok (.iload_n 3, 1) := by decide +kernel
theorem dX1_init_26 : decode cX1_init 26 = .ok (.putfield 24, 3) := by decide +kernel
theorem dX1_init_29 : decode cX1_init 29 = .ok (.aload_n 0, 1) := by decide +kernel
theorem dX1_init_30 : decode cX1_init 30 = .ok (.iload 4, 2) := by decide +kernel
theorem dX1_init_32 : decode cX1_init 32 = .ok (.putfield 27, 3) := by decide +kernel
theorem dX1_init_35 : decode cX1_init 35 = .ok (.aload_n 0, 1) := by decide +kernel
theorem dX1_init_36 : decode cX1_init 36 = .ok (.iload 5, 2) := by decide +kernel
theorem dX1_init_38 : decode cX1_init 38 = .ok (.putfield 30, 3) := by decide +kernel
theorem dX1_init_41 : decode cX1_init 41 = .ok (.aload_n 0, 1) := by decide +kernel
theorem dX1_init_42 : decode cX1_init 42 = .ok (.iload 6, 2) := by decide +kernel
theorem dX1_init_44 : decode cX1_init 44 = .ok (.putfield 33, 3) := by decide +kernel
theorem dX1_init_47 : decode cX1_init 47 = .ok (.aload_n 0, 1) := by decide +kernel
theorem dX1_init_48 : decode cX1_init 48 = .ok (.iload 7, 2) := by decide +kernel
theorem dX1_init_50 : decode cX1_init 50 = .ok (.newarray .int, 2) := by decide +kernel
theorem dX1_init_52 : decode cX1_init 52 = .ok (.putfield 36, 3) := by decide +kernel
theorem dX1_init_55 : decode cX1_init 55 = .ok (.return_, 1) := by decide +kernel
theorem dX1_isUpdate_0 : decode cX1_isUpdate 0 = .ok (.aload_n 0, 1) := by decide +kernel
theorem dX1_isUpdate_1 : decode cX1_isUpdate 1 = .ok (.getfield 24, 3) := by decide +kernel
theorem dX1_isUpdate_4 : decode cX1_isUpdate 4 = .ok (.iconst 3, 1) := by decide +kernel
theorem dX1_isUpdate_5 : decode cX1_isUpdate 5 = .ok (.if_icmp .gt 7, 3) := by decide +kernel
theorem dX1_isUpdate_8 : decode cX1_isUpdate 8 = .ok (.iconst 1, 1) := by decide +kernel
theorem dX1_isUpdate_9 : decode cX1_isUpdate 9 = .ok (.goto 4, 3) := by decide +kernel
theorem dX1_isUpdate_12 : decode cX1_isUpdate 12 = .ok (.iconst 0, 1) := by decide +kernel
theorem dX1_isUpdate_13 : decode cX1_isUpdate 13 = .ok (.ireturn, 1) := by decide +kernel
theorem dX1_isDone_0 : decode cX1_isDone 0 = .ok (.aload_n 0, 1) := by decide +kernel
theorem dX1_isDone_1 : decode cX1_isDone 1 = .ok (.getfield 9, 3) := by decide +kernel
theorem dX1_isDone_4 : decode cX1_isDone 4 = .ok (.iconst (-1), 1) := by decide +kernel
theorem dX1_isDone_5 : decode cX1_isDone 5 = .ok (.if_icmp .eq 7, 3) := by decide +kernel
theorem dX1_isDone_8 : decode cX1_isDone 8 = .ok (.iconst 1, 1) := by decide +kernel
theorem dX1_isDone_9 : decode cX1_isDone 9 = .ok (.goto 4, 3) := by decide +kernel
theorem dX1_isDone_12 : decode cX1_isDone 12 = .ok (.iconst 0, 1) := by decide +kernel
theorem dX1_isDone_13 : decode cX1_isDone 13 = .ok (.ireturn, 1) := by decide +kernel
theorem dX1_see_0 : decode cX1_see 0 = .ok (.iconst 0, 1) := by decide +kernel
theorem dX1_see_1 : decode cX1_see 1 = .ok (.istore_n 2, 1) := by decide +kernel
theorem dX1_see_2 : decode cX1_see 2 = .ok (.iload_n 2, 1) := by decide +kernel
theorem dX1_see_3 : decode cX1_see 3 = .ok (.aload_n 0, 1) := by decide +kernel
theorem dX1_see_4 : decode cX1_see 4 = .ok (.getfield 36, 3) := by decide +kernel
theorem dX1_see_7 : decode cX1_see 7 = .ok (.arraylength, 1) := by decide +kernel
theorem dX1_see_8 : decode cX1_see 8 = .ok (.if_icmp .ge 24, 3) := by decide +kernel
theorem dX1_see_11 : decode cX1_see 11 = .ok (.iload_n 2, 1) := by decide +kernel
theorem dX1_see_12 : decode cX1_see 12 = .ok (.aload_n 1, 1) := by decide +kernel
theorem dX1_see_13 : decode cX1_see 13 = .ok (.arraylength, 1) := by decide +kernel
theorem dX1_see_14 : decode cX1_see 14 = .ok (.if_icmp .ge 18, 3) := by decide +kernel
theorem dX1_see_17 : decode cX1_see 17 = .ok (.aload_n 0, 1) := by decide +kernel
theorem dX1_see_18 : decode cX1_see 18 = .ok (.getfield 36, 3) := by decide +kernel
theorem dX1_see_21 : decode cX1_see 21 = .ok (.iload_n 2, 1) := by decide +kernel
theorem dX1_see_22 : decode cX1_see 22 = .ok (.aload_n 1, 1) := by decide +kernel
theorem dX1_see_23 : decode cX1_see 23 = .ok (.iload_n 2, 1) := by decide +kernel
theorem dX1_see_24 : decode cX1_see 24 = .ok (.iaload, 1) := by decide +kernel
theorem dX1_see_25 : decode cX1_see 25 = .ok (.iastore, 1) := by decide +kernel
theorem dX1_see_26 : decode cX1_see 26 = .ok (.iinc 2 1, 3) := by decide +kernel
theorem dX1_see_29 : decode cX1_see 29 = .ok (.goto (-27), 3) := by decide +kernel
theorem dX1_see_32 : decode cX1_see 32 = .ok (.aload_n 0, 1) := by decide +kernel
theorem dX1_see_33 : decode cX1_see 33 = .ok (.iconst 1, 1) := by decide +kernel
theorem dX1_see_34 : decode cX1_see 34 = .ok (.putfield 40, 3) := by decide +kernel
theorem dX1_see_37 : decode cX1_see 37 = .ok (.return_, 1) := by decide +kernel
theorem dX1_sees_0 : decode cX1_sees 0 = .ok (.aload_n 1, 1) := by decide +kernel
theorem dX1_sees_1 : decode cX1_sees 1 = .ok (.ifnull 38, 3) := by decide +kernel
theorem dX1_sees_4 : decode cX1_sees 4 = .ok (.aload_n 1, 1) := by decide +kernel
theorem dX1_sees_5 : decode cX1_sees 5 = .ok (.getfield 24, 3) := by decide +kernel
theorem dX1_sees_8 : decode cX1_sees 8 = .ok (.iload_n 2, 1) := by decide +kernel
theorem dX1_sees_9 : decode cX1_sees 9 = .ok (.if_icmp .ne 30, 3) := by decide +kernel
theorem dX1_sees_12 : decode cX1_sees 12 = .ok (.aload_n 1, 1) := by decide +kernel
theorem dX1_sees_13 : decode cX1_sees 13 = .ok (.getfield 44, 3) := by decide +kernel
theorem dX1_sees_16 : decode cX1_sees 16 = .ok (.ifCond .le 23, 3) := by decide +kernel
theorem dX1_sees_19 : decode cX1_sees 19 = .ok (.aload_n 1, 1) := by decide +kernel
theorem dX1_sees_20 : decode cX1_sees 20 = .ok (.getfield 44, 3) := by decide +kernel
theorem dX1_sees_23 : decode cX1_sees 23 = .ok (.aload_n 0, 1) := by decide +kernel
theorem dX1_sees_24 : decode cX1_sees 24 = .ok (.getfield 36, 3) := by decide +kernel
theorem dX1_sees_27 : decode cX1_sees 27 = .ok (.aload_n 1, 1) := by decide +kernel
theorem dX1_sees_28 : decode cX1_sees 28 = .ok (.getfield 21, 3) := by decide +kernel
theorem dX1_sees_31 : decode cX1_sees 31 = .ok (.iaload, 1) := by decide +kernel
theorem dX1_sees_32 : decode cX1_sees 32 = .ok (.if_icmp .gt 7, 3) := by decide +kernel
theorem dX1_sees_35 : decode cX1_sees 35 = .ok (.iconst 1, 1) := by decide +kernel
theorem dX1_sees_36 : decode cX1_sees 36 = .ok (.goto 4, 3) := by decide +kernel
theorem dX1_sees_39 : decode cX1_sees 39 = .ok (.iconst 0, 1) := by decide +kernel
theorem dX1_sees_40 : decode cX1_sees 40 = .ok (.ireturn, 1) := by decide +kernel
theorem dX1_seesAtMost_0 : decode cX1_seesAtMost 0 = .ok (.iconst 0, 1) := by decide +kernel
theorem dX1_seesAtMost_1 : decode cX1_seesAtMost 1 = .ok (.istore_n 2, 1) := by decide +kernel
theorem dX1_seesAtMost_2 : decode cX1_seesAtMost 2 = .ok (.iload_n 2, 1) := by decide +kernel
theorem dX1_seesAtMost_3 : decode cX1_seesAtMost 3 = .ok (.aload_n 0, 1) := by decide +kernel
theorem dX1_seesAtMost_4 : decode cX1_seesAtMost 4 = .ok (.getfield 36, 3) := by decide +kernel
theorem dX1_seesAtMost_7 : decode cX1_seesAtMost 7 = .ok (.arraylength, 1) := by decide +kernel
theorem dX1_seesAtMost_8 : decode cX1_seesAtMost 8 = .ok (.if_icmp .ge 26, 3) := by decide +kernel
theorem dX1_seesAtMost_11 : decode cX1_seesAtMost 11 = .ok (.aload_n 0, 1) := by decide +kernel
theorem dX1_seesAtMost_12 : decode cX1_seesAtMost 12 = .ok (.getfield 36, 3) := by decide +kernel
theorem dX1_seesAtMost_15 : decode cX1_seesAtMost 15 = .ok (.iload_n 2, 1) := by decide +kernel
theorem dX1_seesAtMost_16 : decode cX1_seesAtMost 16 = .ok (.iaload, 1) := by decide +kernel
theorem dX1_seesAtMost_17 : decode cX1_seesAtMost 17 = .ok (.aload_n 1, 1) := by decide +kernel
theorem dX1_seesAtMost_18 : decode cX1_seesAtMost 18 = .ok (.getfield 36, 3) := by decide +kernel
theorem dX1_seesAtMost_21 : decode cX1_seesAtMost 21 = .ok (.iload_n 2, 1) := by decide +kernel
theorem dX1_seesAtMost_22 : decode cX1_seesAtMost 22 = .ok (.iaload, 1) := by decide +kernel
theorem dX1_seesAtMost_23 : decode cX1_seesAtMost 23 = .ok (.if_icmp .le 5, 3) := by decide +kernel
theorem dX1_seesAtMost_26 : decode cX1_seesAtMost 26 = .ok (.iconst 0, 1) := by decide +kernel
theorem dX1_seesAtMost_27 : decode cX1_seesAtMost 27 = .ok (.ireturn, 1) := by decide +kernel
theorem dX1_seesAtMost_28 : decode cX1_seesAtMost 28 = .ok (.iinc 2 1, 3) := by decide +kernel
theorem dX1_seesAtMost_31 : decode cX1_seesAtMost 31 = .ok (.goto (-29), 3) := by decide +kernel
theorem dX1_seesAtMost_34 : decode cX1_seesAtMost 34 = .ok (.iconst 1, 1) := by decide +kernel
theorem dX1_seesAtMost_35 : decode cX1_seesAtMost 35 = .ok (.ireturn, 1) := by decide +kernel
theorem dX1_tell_0 : decode cX1_tell 0 = .ok (.iload_n 1, 1) := by decide +kernel
theorem dX1_tell_1 : decode cX1_tell 1 = .ok (.tableswitch 113 0 9 #[55, 60, 65, 70, 75, 88, 93, 98, 103, 108], 55) := by decide +kernel
theorem dX1_tell_56 : decode cX1_tell 56 = .ok (.aload_n 0, 1) := by decide +kernel
theorem dX1_tell_57 : decode cX1_tell 57 = .ok (.getfield 21, 3) := by decide +kernel
theorem dX1_tell_60 : decode cX1_tell 60 = .ok (.ireturn, 1) := by decide +kernel
theorem dX1_tell_61 : decode cX1_tell 61 = .ok (.aload_n 0, 1) := by decide +kernel
theorem dX1_tell_62 : decode cX1_tell 62 = .ok (.getfield 24, 3) := by decide +kernel
theorem dX1_tell_65 : decode cX1_tell 65 = .ok (.ireturn, 1) := by decide +kernel
theorem dX1_tell_66 : decode cX1_tell 66 = .ok (.aload_n 0, 1) := by decide +kernel
theorem dX1_tell_67 : decode cX1_tell 67 = .ok (.getfield 27, 3) := by decide +kernel
theorem dX1_tell_70 : decode cX1_tell 70 = .ok (.ireturn, 1) := by decide +kernel
theorem dX1_tell_71 : decode cX1_tell 71 = .ok (.aload_n 0, 1) := by decide +kernel
theorem dX1_tell_72 : decode cX1_tell 72 = .ok (.getfield 30, 3) := by decide +kernel
theorem dX1_tell_75 : decode cX1_tell 75 = .ok (.ireturn, 1) := by decide +kernel
theorem dX1_tell_76 : decode cX1_tell 76 = .ok (.aload_n 0, 1) := by decide +kernel
theorem dX1_tell_77 : decode cX1_tell 77 = .ok (.invokevirtual 47, 3) := by decide +kernel
theorem dX1_tell_80 : decode cX1_tell 80 = .ok (.ifCond .eq 7, 3) := by decide +kernel
theorem dX1_tell_83 : decode cX1_tell 83 = .ok (.iconst 1, 1) := by decide +kernel
theorem dX1_tell_84 : decode cX1_tell 84 = .ok (.goto 4, 3) := by decide +kernel
theorem dX1_tell_87 : decode cX1_tell 87 = .ok (.iconst 0, 1) := by decide +kernel
theorem dX1_tell_88 : decode cX1_tell 88 = .ok (.ireturn, 1) := by decide +kernel
theorem dX1_tell_89 : decode cX1_tell 89 = .ok (.aload_n 0, 1) := by decide +kernel
theorem dX1_tell_90 : decode cX1_tell 90 = .ok (.getfield 33, 3) := by decide +kernel
theorem dX1_tell_93 : decode cX1_tell 93 = .ok (.ireturn, 1) := by decide +kernel
theorem dX1_tell_94 : decode cX1_tell 94 = .ok (.aload_n 0, 1) := by decide +kernel
theorem dX1_tell_95 : decode cX1_tell 95 = .ok (.getfield 9, 3) := by decide +kernel
theorem dX1_tell_98 : decode cX1_tell 98 = .ok (.ireturn, 1) := by decide +kernel
theorem dX1_tell_99 : decode cX1_tell 99 = .ok (.aload_n 0, 1) := by decide +kernel
theorem dX1_tell_100 : decode cX1_tell 100 = .ok (.getfield 51, 3) := by decide +kernel
theorem dX1_tell_103 : decode cX1_tell 103 = .ok (.ireturn, 1) := by decide +kernel
theorem dX1_tell_104 : decode cX1_tell 104 = .ok (.aload_n 0, 1) := by decide +kernel
theorem dX1_tell_105 : decode cX1_tell 105 = .ok (.getfield 15, 3) := by decide +kernel
theorem dX1_tell_108 : decode cX1_tell 108 = .ok (.ireturn, 1) := by decide +kernel
theorem dX1_tell_109 : decode cX1_tell 109 = .ok (.aload_n 0, 1) := by decide +kernel
theorem dX1_tell_110 : decode cX1_tell 110 = .ok (.getfield 44, 3) := by decide +kernel
theorem dX1_tell_113 : decode cX1_tell 113 = .ok (.ireturn, 1) := by decide +kernel
theorem dX1_tell_114 : decode cX1_tell 114 = .ok (.iconst (-1), 1) := by decide +kernel
theorem dX1_tell_115 : decode cX1_tell 115 = .ok (.ireturn, 1) := by decide +kernel
theorem dX2_init_0 : decode cX2_init 0 = .ok (.aload_n 0, 1) := by decide +kernel
theorem dX2_init_1 : decode cX2_init 1 = .ok (.invokespecial 3, 3) := by decide +kernel
theorem dX2_init_4 : decode cX2_init 4 = .ok (.aload_n 0, 1) := by decide +kernel
theorem dX2_init_5 : decode cX2_init 5 = .ok (.sipush 2000, 3) := by decide +kernel
theorem dX2_init_8 : decode cX2_init 8 = .ok (.newarray .int, 2) := by decide +kernel
theorem dX2_init_10 : decode cX2_init 10 = .ok (.putfield 9, 3) := by decide +kernel
theorem dX2_init_13 : decode cX2_init 13 = .ok (.aload_n 0, 1) := by decide +kernel
theorem dX2_init_14 : decode cX2_init 14 = .ok (.sipush 2000, 3) := by decide +kernel
theorem dX2_init_17 : decode cX2_init 17 = .ok (.newarray .int, 2) := by decide +kernel
theorem dX2_init_19 : decode cX2_init 19 = .ok (.putfield 15, 3) := by decide +kernel
theorem dX2_init_22 : decode cX2_init 22 = .ok (.aload_n 0, 1) := by decide +kernel
theorem dX2_init_23 : decode cX2_init 23 = .ok (.sipush 2000, 3) := by decide +kernel
theorem dX2_init_26 : decode cX2_init 26 = .ok (.newarray .int, 2) := by decide +kernel
theorem dX2_init_28 : decode cX2_init 28 = .ok (.putfield 18, 3) := by decide +kernel
theorem dX2_init_31 : decode cX2_init 31 = .ok (.aload_n 0, 1) := by decide +kernel
theorem dX2_init_32 : decode cX2_init 32 = .ok (.sipush 2000, 3) := by decide +kernel
theorem dX2_init_35 : decode cX2_init 35 = .ok (.newarray .int, 2) := by decide +kernel
theorem dX2_init_37 : decode cX2_init 37 = .ok (.putfield 21, 3) := by decide +kernel
theorem dX2_init_40 : decode cX2_init 40 = .ok (.aload_n 0, 1) := by decide +kernel
theorem dX2_init_41 : decode cX2_init 41 = .ok (.sipush 2000, 3) := by decide +kernel
theorem dX2_init_44 : decode cX2_init 44 = .ok (.newarray .int, 2) := by decide +kernel
theorem dX2_init_46 : decode cX2_init 46 = .ok (.putfield 24, 3) := by decide +kernel
theorem dX2_init_49 : decode cX2_init 49 = .ok (.aload_n 0, 1) := by decide +kernel
theorem dX2_init_50 : decode cX2_init 50 = .ok (.iload_n 1, 1) := by decide +kernel
theorem dX2_init_51 : decode cX2_init 51 = .ok (.putfield 27, 3) := by decide +kernel
theorem dX2_init_54 : decode cX2_init 54 = .ok (.aload_n 0, 1) := by decide +kernel
theorem dX2_init_55 : decode cX2_init 55 = .ok (.sipush 2000, 3) := by decide +kernel
theorem dX2_init_58 : decode cX2_init 58 = .ok (.iload_n 1, 1) := by decide +kernel
theorem dX2_init_59 : decode cX2_init 59 = .ok (.imul, 1) := by decide +kernel
theorem dX2_init_60 : decode cX2_init 60 = .ok (.newarray .int, 2) := by decide +kernel
theorem dX2_init_62 : decode cX2_init 62 = .ok (.putfield 31, 3) := by decide +kernel
theorem dX2_init_65 : decode cX2_init 65 = .ok (.iconst 0, 1) := by decide +kernel
theorem dX2_init_66 : decode cX2_init 66 = .ok (.istore_n 2, 1) := by decide +kernel
theorem dX2_init_67 : decode cX2_init 67 = .ok (.iload_n 2, 1) := by decide +kernel
theorem dX2_init_68 : decode cX2_init 68 = .ok (.sipush 2000, 3) := by decide +kernel
theorem dX2_init_71 : decode cX2_init 71 = .ok (.if_icmp .ge 16, 3) := by decide +kernel
theorem dX2_init_74 : decode cX2_init 74 = .ok (.aload_n 0, 1) := by decide +kernel
theorem dX2_init_75 : decode cX2_init 75 = .ok (.getfield 9, 3) := by decide +kernel
theorem dX2_init_78 : decode cX2_init 78 = .ok (.iload_n 2, 1) := by decide +kernel
theorem dX2_init_79 : decode cX2_init 79 = .ok (.iload_n 2, 1) := by decide +kernel
theorem dX2_init_80 : decode cX2_init 80 = .ok (.iastore, 1) := by decide +kernel
theorem dX2_init_81 : decode cX2_init 81 = .ok (.iinc 2 1, 3) := by decide +kernel
theorem dX2_init_84 : decode cX2_init 84 = .ok (.goto (-17), 3) := by decide +kernel
theorem dX2_init_87 : decode cX2_init 87 = .ok (.return_, 1) := by decide +kernel
theorem dX2_holds_0 : decode cX2_holds 0 = .ok (.iload_n 1, 1) := by decide +kernel
theorem dX2_holds_1 : decode cX2_holds 1 = .ok (.ifCond .lt 15, 3) := by decide +kernel
theorem dX2_holds_4 : decode cX2_holds 4 = .ok (.iload_n 1, 1) := by decide +kernel
theorem dX2_holds_5 : decode cX2_holds 5 = .ok (.aload_n 0, 1) := by decide +kernel
theorem dX2_holds_6 : decode cX2_holds 6 = .ok (.getfield 34, 3) := by decide +kernel
theorem dX2_holds_9 : decode cX2_holds 9 = .ok (.if_icmp .ge 7, 3) := by decide +kernel
theorem dX2_holds_12 : decode cX2_holds 12 = .ok (.iconst 1, 1) := by decide +kernel
theorem dX2_holds_13 : decode cX2_holds 13 = .ok (.goto 4, 3) := by decide +kernel
theorem dX2_holds_16 : decode cX2_holds 16 = .ok (.iconst 0, 1) := by decide +kernel
theorem dX2_holds_17 : decode cX2_holds 17 = .ok (.ireturn, 1) := by decide +kernel
theorem dX2_hasRoom_0 : decode cX2_hasRoom 0 = .ok (.aload_n 0, 1) := by decide +kernel
theorem dX2_hasRoom_1 : decode cX2_hasRoom 1 = .ok (.getfield 34, 3) := by decide +kernel
theorem dX2_hasRoom_4 : decode cX2_hasRoom 4 = .ok (.iload_n 1, 1) := by decide +kernel
theorem dX2_hasRoom_5 : decode cX2_hasRoom 5 = .ok (.iadd, 1) := by decide +kernel
theorem dX2_hasRoom_6 : decode cX2_hasRoom 6 = .ok (.sipush 2000, 3) := by decide +kernel
theorem dX2_hasRoom_9 : decode cX2_hasRoom 9 = .ok (.if_icmp .gt 7, 3) := by decide +kernel
theorem dX2_hasRoom_12 : decode cX2_hasRoom 12 = .ok (.iconst 1, 1) := by decide +kernel
theorem dX2_hasRoom_13 : decode cX2_hasRoom 13 = .ok (.goto 4, 3) := by decide +kernel
theorem dX2_hasRoom_16 : decode cX2_hasRoom 16 = .ok (.iconst 0, 1) := by decide +kernel
theorem dX2_hasRoom_17 : decode cX2_hasRoom 17 = .ok (.ireturn, 1) := by decide +kernel
theorem dX2_slotOf_0 : decode cX2_slotOf 0 = .ok (.aload_n 0, 1) := by decide +kernel
theorem dX2_slotOf_1 : decode cX2_slotOf 1 = .ok (.getfield 9, 3) := by decide +kernel
theorem dX2_slotOf_4 : decode cX2_slotOf 4 = .ok (.aload_n 0, 1) := by decide +kernel
theorem dX2_slotOf_5 : decode cX2_slotOf 5 = .ok (.getfield 37, 3) := by decide +kernel
theorem dX2_slotOf_8 : decode cX2_slotOf 8 = .ok (.iload_n 1, 1) := by decide +kernel
theorem dX2_slotOf_9 : decode cX2_slotOf 9 = .ok (.iadd, 1) := by decide +kernel
theorem dX2_slotOf_10 : decode cX2_slotOf 10 = .ok (.sipush 2000, 3) := by decide +kernel
theorem dX2_slotOf_13 : decode cX2_slotOf 13 = .ok (.irem, 1) := by decide +kernel
theorem dX2_slotOf_14 : decode cX2_slotOf 14 = .ok (.iaload, 1) := by decide +kernel
theorem dX2_slotOf_15 : decode cX2_slotOf 15 = .ok (.ireturn, 1) := by decide +kernel
theorem dX2_send_0 : decode cX2_send 0 = .ok (.aload_n 0, 1) := by decide +kernel
theorem dX2_send_1 : decode cX2_send 1 = .ok (.getfield 9, 3) := by decide +kernel
theorem dX2_send_4 : decode cX2_send 4 = .ok (.aload_n 0, 1) := by decide +kernel
theorem dX2_send_5 : decode cX2_send 5 = .ok (.getfield 37, 3) := by decide +kernel
theorem dX2_send_8 : decode cX2_send 8 = .ok (.aload_n 0, 1) := by decide +kernel
theorem dX2_send_9 : decode cX2_send 9 = .ok (.getfield 34, 3) := by decide +kernel
theorem dX2_send_12 : decode cX2_send 12 = .ok (.iadd, 1) := by decide +kernel
theorem dX2_send_13 : decode cX2_send 13 = .ok (.sipush 2000, 3) := by decide +kernel
theorem dX2_send_16 : decode cX2_send 16 = .ok (.irem, 1) := by decide +kernel
theorem dX2_send_17 : decode cX2_send 17 = .ok (.iaload, 1) := by decide +kernel
theorem dX2_send_18 : decode cX2_send 18 = .ok (.istore 6, 2) := by decide +kernel
theorem dX2_send_20 : decode cX2_send 20 = .ok (.aload_n 0, 1) := by decide +kernel
theorem dX2_send_21 : decode cX2_send 21 = .ok (.getfield 15, 3) := by decide +kernel
theorem dX2_send_24 : decode cX2_send 24 = .ok (.iload 6, 2) := by decide +kernel
theorem dX2_send_26 : decode cX2_send 26 = .ok (.iload_n 1, 1) := by decide +kernel
theorem dX2_send_27 : decode cX2_send 27 = .ok (.iastore, 1) := by decide +kernel
theorem dX2_send_28 : decode cX2_send 28 = .ok (.aload_n 0, 1) := by decide +kernel
theorem dX2_send_29 : decode cX2_send 29 = .ok (.getfield 18, 3) := by decide +kernel
theorem dX2_send_32 : decode cX2_send 32 = .ok (.iload 6, 2) := by decide +kernel
theorem dX2_send_34 : decode cX2_send 34 = .ok (.iload_n 2, 1) := by decide +kernel
theorem dX2_send_35 : decode cX2_send 35 = .ok (.iastore, 1) := by decide +kernel
theorem dX2_send_36 : decode cX2_send 36 = .ok (.aload_n 0, 1) := by decide +kernel
theorem dX2_send_37 : decode cX2_send 37 = .ok (.getfield 21, 3) := by decide +kernel
theorem dX2_send_40 : decode cX2_send 40 = .ok (.iload 6, 2) := by decide +kernel
theorem dX2_send_42 : decode cX2_send 42 = .ok (.iload_n 3, 1) := by decide +kernel
theorem dX2_send_43 : decode cX2_send 43 = .ok (.iastore, 1) := by decide +kernel
theorem dX2_send_44 : decode cX2_send 44 = .ok (.aload_n 0, 1) := by decide +kernel
theorem dX2_send_45 : decode cX2_send 45 = .ok (.getfield 24, 3) := by decide +kernel
theorem dX2_send_48 : decode cX2_send 48 = .ok (.iload 6, 2) := by decide +kernel
theorem dX2_send_50 : decode cX2_send 50 = .ok (.iload 4, 2) := by decide +kernel
theorem dX2_send_52 : decode cX2_send 52 = .ok (.iastore, 1) := by decide +kernel
theorem dX2_send_53 : decode cX2_send 53 = .ok (.aload 5, 2) := by decide +kernel
theorem dX2_send_55 : decode cX2_send 55 = .ok (.ifnull 24, 3) := by decide +kernel
theorem dX2_send_58 : decode cX2_send 58 = .ok (.aload 5, 2) := by decide +kernel
theorem dX2_send_60 : decode cX2_send 60 = .ok (.iconst 0, 1) := by decide +kernel
theorem dX2_send_61 : decode cX2_send 61 = .ok (.aload_n 0, 1) := by decide +kernel
theorem dX2_send_62 : decode cX2_send 62 = .ok (.getfield 31, 3) := by decide +kernel
theorem dX2_send_65 : decode cX2_send 65 = .ok (.iload 6, 2) := by decide +kernel
theorem dX2_send_67 : decode cX2_send 67 = .ok (.aload_n 0, 1) := by decide +kernel
theorem dX2_send_68 : decode cX2_send 68 = .ok (.getfield 27, 3) := by decide +kernel
theorem dX2_send_71 : decode cX2_send 71 = .ok (.imul, 1) := by decide +kernel
theorem dX2_send_72 : decode cX2_send 72 = .ok (.aload_n 0, 1) := by decide +kernel
theorem dX2_send_73 : decode cX2_send 73 = .ok (.getfield 27, 3) := by decide +kernel
theorem dX2_send_76 : decode cX2_send 76 = .ok (.invokestatic 40, 3) := by decide +kernel
theorem dX2_send_79 : decode cX2_send 79 = .ok (.aload_n 0, 1) := by decide +kernel
theorem dX2_send_80 : decode cX2_send 80 = .ok (.dup, 1) := by decide +kernel
theorem dX2_send_81 : decode cX2_send 81 = .ok (.getfield 34, 3) := by decide +kernel
theorem dX2_send_84 : decode cX2_send 84 = .ok (.iconst 1, 1) := by decide +kernel
theorem dX2_send_85 : decode cX2_send 85 = .ok (.iadd, 1) := by decide +kernel
theorem dX2_send_86 : decode cX2_send 86 = .ok (.putfield 34, 3) := by decide +kernel
theorem dX2_send_89 : decode cX2_send 89 = .ok (.aload_n 0, 1) := by decide +kernel
theorem dX2_send_90 : decode cX2_send 90 = .ok (.dup, 1) := by decide +kernel
theorem dX2_send_91 : decode cX2_send 91 = .ok (.getfield 46, 3) := by decide +kernel
theorem dX2_send_94 : decode cX2_send 94 = .ok (.iconst 1, 1) := by decide +kernel
theorem dX2_send_95 : decode cX2_send 95 = .ok (.iadd, 1) := by decide +kernel
theorem dX2_send_96 : decode cX2_send 96 = .ok (.putfield 46, 3) := by decide +kernel
theorem dX2_send_99 : decode cX2_send 99 = .ok (.return_, 1) := by decide +kernel
theorem dX2_take_0 : decode cX2_take 0 = .ok (.aload_n 0, 1) := by decide +kernel
theorem dX2_take_1 : decode cX2_take 1 = .ok (.iload_n 1, 1) := by decide +kernel
theorem dX2_take_2 : decode cX2_take 2 = .ok (.invokevirtual 49, 3) := by decide +kernel
theorem dX2_take_5 : decode cX2_take 5 = .ok (.istore_n 2, 1) := by decide +kernel
theorem dX2_take_6 : decode cX2_take 6 = .ok (.iload_n 1, 1) := by decide +kernel
theorem dX2_take_7 : decode cX2_take 7 = .ok (.istore_n 3, 1) := by decide +kernel
theorem dX2_take_8 : decode cX2_take 8 = .ok (.iload_n 3, 1) := by decide +kernel
theorem dX2_take_9 : decode cX2_take 9 = .ok (.ifCond .le 31, 3) := by decide +kernel
theorem dX2_take_12 : decode cX2_take 12 = .ok (.aload_n 0, 1) := by decide +kernel
theorem dX2_take_13 : decode cX2_take 13 = .ok (.getfield 9, 3) := by decide +kernel
theorem dX2_take_16 : decode cX2_take 16 = .ok (.aload_n 0, 1) := by decide +kernel
theorem dX2_take_17 : decode cX2_take 17 = .ok (.getfield 37, 3) := by decide +kernel
theorem dX2_take_20 : decode cX2_take 20 = .ok (.iload_n 3, 1) := by decide +kernel
theorem dX2_take_21 : decode cX2_take 21 = .ok (.iadd, 1) := by decide +kernel
theorem dX2_take_22 : decode cX2_take 22 = .ok (.sipush 2000, 3) := by decide +kernel
theorem dX2_take_25 : decode cX2_take 25 = .ok (.irem, 1) := by decide +kernel
theorem dX2_take_26 : decode cX2_take 26 = .ok (.aload_n 0, 1) := by decide +kernel
theorem dX2_take_27 : decode cX2_take 27 = .ok (.iload_n 3, 1) := by decide +kernel
theorem dX2_take_28 : decode cX2_take 28 = .ok (.iconst 1, 1) := by decide +kernel
theorem dX2_take_29 : decode cX2_take 29 = .ok (.isub, 1) := by decide +kernel
theorem dX2_take_30 : decode cX2_take 30 = .ok (.invokevirtual 49, 3) := by decide +kernel
theorem dX2_take_33 : decode cX2_take 33 = .ok (.iastore, 1) := by decide +kernel
theorem dX2_take_34 : decode cX2_take 34 = .ok (.iinc 3 (-1), 3) := by decide +kernel
theorem dX2_take_37 : decode cX2_take 37 = .ok (.goto (-29), 3) := by decide +kernel
theorem dX2_take_40 : decode cX2_take 40 = .ok (.aload_n 0, 1) := by decide +kernel
theorem dX2_take_41 : decode cX2_take 41 = .ok (.getfield 9, 3) := by decide +kernel
theorem dX2_take_44 : decode cX2_take 44 = .ok (.aload_n 0, 1) := by decide +kernel
theorem dX2_take_45 : decode cX2_take 45 = .ok (.getfield 37, 3) := by decide +kernel
theorem dX2_take_48 : decode cX2_take 48 = .ok (.iload_n 2, 1) := by decide +kernel
theorem dX2_take_49 : decode cX2_take 49 = .ok (.iastore, 1) := by decide +kernel
theorem dX2_take_50 : decode cX2_take 50 = .ok (.aload_n 0, 1) := by decide +kernel
theorem dX2_take_51 : decode cX2_take 51 = .ok (.aload_n 0, 1) := by decide +kernel
theorem dX2_take_52 : decode cX2_take 52 = .ok (.getfield 37, 3) := by decide +kernel
theorem dX2_take_55 : decode cX2_take 55 = .ok (.iconst 1, 1) := by decide +kernel
theorem dX2_take_56 : decode cX2_take 56 = .ok (.iadd, 1) := by decide +kernel
theorem dX2_take_57 : decode cX2_take 57 = .ok (.sipush 2000, 3) := by decide +kernel
theorem dX2_take_60 : decode cX2_take 60 = .ok (.irem, 1) := by decide +kernel
theorem dX2_take_61 : decode cX2_take 61 = .ok (.putfield 37, 3) := by decide +kernel
theorem dX2_take_64 : decode cX2_take 64 = .ok (.aload_n 0, 1) := by decide +kernel
theorem dX2_take_65 : decode cX2_take 65 = .ok (.dup, 1) := by decide +kernel
theorem dX2_take_66 : decode cX2_take 66 = .ok (.getfield 34, 3) := by decide +kernel
theorem dX2_take_69 : decode cX2_take 69 = .ok (.iconst 1, 1) := by decide +kernel
theorem dX2_take_70 : decode cX2_take 70 = .ok (.isub, 1) := by decide +kernel
theorem dX2_take_71 : decode cX2_take 71 = .ok (.putfield 34, 3) := by decide +kernel
theorem dX2_take_74 : decode cX2_take 74 = .ok (.return_, 1) := by decide +kernel
theorem dX2_raise_0 : decode cX2_raise 0 = .ok (.iconst 0, 1) := by decide +kernel
theorem dX2_raise_1 : decode cX2_raise 1 = .ok (.istore_n 3, 1) := by decide +kernel
theorem dX2_raise_2 : decode cX2_raise 2 = .ok (.iload_n 3, 1) := by decide +kernel
theorem dX2_raise_3 : decode cX2_raise 3 = .ok (.aload_n 1, 1) := by decide +kernel
theorem dX2_raise_4 : decode cX2_raise 4 = .ok (.arraylength, 1) := by decide +kernel
theorem dX2_raise_5 : decode cX2_raise 5 = .ok (.if_icmp .ge 31, 3) := by decide +kernel
theorem dX2_raise_8 : decode cX2_raise 8 = .ok (.aload_n 1, 1) := by decide +kernel
theorem dX2_raise_9 : decode cX2_raise 9 = .ok (.iload_n 3, 1) := by decide +kernel
theorem dX2_raise_10 : decode cX2_raise 10 = .ok (.aload_n 1, 1) := by decide +kernel
theorem dX2_raise_11 : decode cX2_raise 11 = .ok (.iload_n 3, 1) := by decide +kernel
theorem dX2_raise_12 : decode cX2_raise 12 = .ok (.iaload, 1) := by decide +kernel
theorem dX2_raise_13 : decode cX2_raise 13 = .ok (.aload_n 0, 1) := by decide +kernel
theorem dX2_raise_14 : decode cX2_raise 14 = .ok (.getfield 31, 3) := by decide +kernel
theorem dX2_raise_17 : decode cX2_raise 17 = .ok (.iload_n 2, 1) := by decide +kernel
theorem dX2_raise_18 : decode cX2_raise 18 = .ok (.aload_n 0, 1) := by decide +kernel
theorem dX2_raise_19 : decode cX2_raise 19 = .ok (.getfield 27, 3) := by decide +kernel
theorem dX2_raise_22 : decode cX2_raise 22 = .ok (.imul, 1) := by decide +kernel
theorem dX2_raise_23 : decode cX2_raise 23 = .ok (.iload_n 3, 1) := by decide +kernel
theorem dX2_raise_24 : decode cX2_raise 24 = .ok (.iadd, 1) := by decide +kernel
theorem dX2_raise_25 : decode cX2_raise 25 = .ok (.iaload, 1) := by decide +kernel
theorem dX2_raise_26 : decode cX2_raise 26 = .ok (.invokestatic 53, 3) := by decide +kernel
theorem dX2_raise_29 : decode cX2_raise 29 = .ok (.iastore, 1) := by decide +kernel
theorem dX2_raise_30 : decode cX2_raise 30 = .ok (.iinc 3 1, 3) := by decide +kernel
theorem dX2_raise_33 : decode cX2_raise 33 = .ok (.goto (-31), 3) := by decide +kernel
theorem dX2_raise_36 : decode cX2_raise 36 = .ok (.return_, 1) := by decide +kernel
theorem dX2_numberOf_0 : decode cX2_numberOf 0 = .ok (.aload_n 0, 1) := by decide +kernel
theorem dX2_numberOf_1 : decode cX2_numberOf 1 = .ok (.iload_n 1, 1) := by decide +kernel
theorem dX2_numberOf_2 : decode cX2_numberOf 2 = .ok (.invokevirtual 49, 3) := by decide +kernel
theorem dX2_numberOf_5 : decode cX2_numberOf 5 = .ok (.istore_n 3, 1) := by decide +kernel
theorem dX2_numberOf_6 : decode cX2_numberOf 6 = .ok (.aload_n 0, 1) := by decide +kernel
theorem dX2_numberOf_7 : decode cX2_numberOf 7 = .ok (.getfield 15, 3) := by decide +kernel
theorem dX2_numberOf_10 : decode cX2_numberOf 10 = .ok (.iload_n 3, 1) := by decide +kernel
theorem dX2_numberOf_11 : decode cX2_numberOf 11 = .ok (.iaload, 1) := by decide +kernel
theorem dX2_numberOf_12 : decode cX2_numberOf 12 = .ok (.iconst 1, 1) := by decide +kernel
theorem dX2_numberOf_13 : decode cX2_numberOf 13 = .ok (.if_icmp .eq 13, 3) := by decide +kernel
theorem dX2_numberOf_16 : decode cX2_numberOf 16 = .ok (.aload_n 0, 1) := by decide +kernel
theorem dX2_numberOf_17 : decode cX2_numberOf 17 = .ok (.getfield 15, 3) := by decide +kernel
theorem dX2_numberOf_20 : decode cX2_numberOf 20 = .ok (.iload_n 3, 1) := by decide +kernel
theorem dX2_numberOf_21 : decode cX2_numberOf 21 = .ok (.iaload, 1) := by decide +kernel
theorem dX2_numberOf_22 : decode cX2_numberOf 22 = .ok (.iconst 2, 1) := by decide +kernel
theorem dX2_numberOf_23 : decode cX2_numberOf 23 = .ok (.if_icmp .ne 19, 3) := by decide +kernel
theorem dX2_numberOf_26 : decode cX2_numberOf 26 = .ok (.aload_n 0, 1) := by decide +kernel
theorem dX2_numberOf_27 : decode cX2_numberOf 27 = .ok (.getfield 31, 3) := by decide +kernel
theorem dX2_numberOf_30 : decode cX2_numberOf 30 = .ok (.iload_n 3, 1) := by decide +kernel
theorem dX2_numberOf_31 : decode cX2_numberOf 31 = .ok (.aload_n 0, 1) := by decide +kernel
theorem dX2_numberOf_32 : decode cX2_numberOf 32 = .ok (.getfield 27, 3) := by decide +kernel
theorem dX2_numberOf_35 : decode cX2_numberOf 35 = .ok (.imul, 1) := by decide +kernel
theorem dX2_numberOf_36 : decode cX2_numberOf 36 = .ok (.iload_n 2, 1) := by decide +kernel
theorem dX2_numberOf_37 : decode cX2_numberOf 37 = .ok (.iadd, 1) := by decide +kernel
theorem dX2_numberOf_38 : decode cX2_numberOf 38 = .ok (.iaload, 1) := by decide +kernel
theorem dX2_numberOf_39 : decode cX2_numberOf 39 = .ok (.goto 4, 3) := by decide +kernel
theorem dX2_numberOf_42 : decode cX2_numberOf 42 = .ok (.iconst (-1), 1) := by decide +kernel
theorem dX2_numberOf_43 : decode cX2_numberOf 43 = .ok (.ireturn, 1) := by decide +kernel
theorem dX2_tell_0 : decode cX2_tell 0 = .ok (.aload_n 0, 1) := by decide +kernel
theorem dX2_tell_1 : decode cX2_tell 1 = .ok (.iload_n 1, 1) := by decide +kernel
theorem dX2_tell_2 : decode cX2_tell 2 = .ok (.invokevirtual 49, 3) := by decide +kernel
theorem dX2_tell_5 : decode cX2_tell 5 = .ok (.istore_n 3, 1) := by decide +kernel
theorem dX2_tell_6 : decode cX2_tell 6 = .ok (.iload_n 2, 1) := by decide +kernel
theorem dX2_tell_7 : decode cX2_tell 7 = .ok (.tableswitch 57 0 3 #[29, 36, 43, 50], 29) := by decide +kernel
theorem dX2_tell_36 : decode cX2_tell 36 = .ok (.aload_n 0, 1) := by decide +kernel
theorem dX2_tell_37 : decode cX2_tell 37 = .ok (.getfield 15, 3) := by decide +kernel
theorem dX2_tell_40 : decode cX2_tell 40 = .ok (.iload_n 3, 1) := by decide +kernel
theorem dX2_tell_41 : decode cX2_tell 41 = .ok (.iaload, 1) := by decide +kernel
theorem dX2_tell_42 : decode cX2_tell 42 = .ok (.ireturn, 1) := by decide +kernel
theorem dX2_tell_43 : decode cX2_tell 43 = .ok (.aload_n 0, 1) := by decide +kernel
theorem dX2_tell_44 : decode cX2_tell 44 = .ok (.getfield 18, 3) := by decide +kernel
theorem dX2_tell_47 : decode cX2_tell 47 = .ok (.iload_n 3, 1) := by decide +kernel
theorem dX2_tell_48 : decode cX2_tell 48 = .ok (.iaload, 1) := by decide +kernel
theorem dX2_tell_49 : decode cX2_tell 49 = .ok (.ireturn, 1) := by decide +kernel
theorem dX2_tell_50 : decode cX2_tell 50 = .ok (.aload_n 0, 1) := by decide +kernel
theorem dX2_tell_51 : decode cX2_tell 51 = .ok (.getfield 21, 3) := by decide +kernel
theorem dX2_tell_54 : decode cX2_tell 54 = .ok (.iload_n 3, 1) := by decide +kernel
theorem dX2_tell_55 : decode cX2_tell 55 = .ok (.iaload, 1) := by decide +kernel
theorem dX2_tell_56 : decode cX2_tell 56 = .ok (.ireturn, 1) := by decide +kernel
theorem dX2_tell_57 : decode cX2_tell 57 = .ok (.aload_n 0, 1) := by decide +kernel
theorem dX2_tell_58 : decode cX2_tell 58 = .ok (.getfield 24, 3) := by decide +kernel
theorem dX2_tell_61 : decode cX2_tell 61 = .ok (.iload_n 3, 1) := by decide +kernel
theorem dX2_tell_62 : decode cX2_tell 62 = .ok (.iaload, 1) := by decide +kernel
theorem dX2_tell_63 : decode cX2_tell 63 = .ok (.ireturn, 1) := by decide +kernel
theorem dX2_tell_64 : decode cX2_tell 64 = .ok (.iconst (-1), 1) := by decide +kernel
theorem dX2_tell_65 : decode cX2_tell 65 = .ok (.ireturn, 1) := by decide +kernel
theorem dX3_init_0 : decode cX3_init 0 = .ok (.aload_n 0, 1) := by decide +kernel
theorem dX3_init_1 : decode cX3_init 1 = .ok (.invokespecial 1, 3) := by decide +kernel
theorem dX3_init_4 : decode cX3_init 4 = .ok (.iload_n 1, 1) := by decide +kernel
theorem dX3_init_5 : decode cX3_init 5 = .ok (.iconst 3, 1) := by decide +kernel
theorem dX3_init_6 : decode cX3_init 6 = .ok (.if_icmp .lt 9, 3) := by decide +kernel
theorem dX3_init_9 : decode cX3_init 9 = .ok (.iload_n 1, 1) := by decide +kernel
theorem dX3_init_10 : decode cX3_init 10 = .ok (.bipush 31, 2) := by decide +kernel
theorem dX3_init_12 : decode cX3_init 12 = .ok (.if_icmp .le 7, 3) := by decide +kernel
theorem dX3_init_15 : decode cX3_init 15 = .ok (.iconst 3, 1) := by decide +kernel
theorem dX3_init_16 : decode cX3_init 16 = .ok (.goto 4, 3) := by decide +kernel
theorem dX3_init_19 : decode cX3_init 19 = .ok (.iload_n 1, 1) := by decide +kernel
theorem dX3_init_20 : decode cX3_init 20 = .ok (.istore_n 2, 1) := by decide +kernel
theorem dX3_init_21 : decode cX3_init 21 = .ok (.aload_n 0, 1) := by decide +kernel
theorem dX3_init_22 : decode cX3_init 22 = .ok (.iload_n 2, 1) := by decide +kernel
theorem dX3_init_23 : decode cX3_init 23 = .ok (.anewarray 9, 3) := by decide +kernel
theorem dX3_init_26 : decode cX3_init 26 = .ok (.putfield 11, 3) := by decide +kernel
theorem dX3_init_29 : decode cX3_init 29 = .ok (.iconst 0, 1) := by decide +kernel
theorem dX3_init_30 : decode cX3_init 30 = .ok (.istore_n 3, 1) := by decide +kernel
theorem dX3_init_31 : decode cX3_init 31 = .ok (.iload_n 3, 1) := by decide +kernel
theorem dX3_init_32 : decode cX3_init 32 = .ok (.iload_n 2, 1) := by decide +kernel
theorem dX3_init_33 : decode cX3_init 33 = .ok (.if_icmp .ge 24, 3) := by decide +kernel
theorem dX3_init_36 : decode cX3_init 36 = .ok (.aload_n 0, 1) := by decide +kernel
theorem dX3_init_37 : decode cX3_init 37 = .ok (.getfield 11, 3) := by decide +kernel
theorem dX3_init_40 : decode cX3_init 40 = .ok (.iload_n 3, 1) := by decide +kernel
theorem dX3_init_41 : decode cX3_init 41 = .ok (.new 9, 3) := by decide +kernel
theorem dX3_init_44 : decode cX3_init 44 = .ok (.dup, 1) := by decide +kernel
theorem dX3_init_45 : decode cX3_init 45 = .ok (.iload_n 3, 1) := by decide +kernel
theorem dX3_init_46 : decode cX3_init 46 = .ok (.iload_n 2, 1) := by decide +kernel
theorem dX3_init_47 : decode cX3_init 47 = .ok (.invokespecial 15, 3) := by decide +kernel
theorem dX3_init_50 : decode cX3_init 50 = .ok (.aastore, 1) := by decide +kernel
theorem dX3_init_51 : decode cX3_init 51 = .ok (.iinc 3 1, 3) := by decide +kernel
theorem dX3_init_54 : decode cX3_init 54 = .ok (.goto (-23), 3) := by decide +kernel
theorem dX3_init_57 : decode cX3_init 57 = .ok (.aload_n 0, 1) := by decide +kernel
theorem dX3_init_58 : decode cX3_init 58 = .ok (.new 18, 3) := by decide +kernel
theorem dX3_init_61 : decode cX3_init 61 = .ok (.dup, 1) := by decide +kernel
theorem dX3_init_62 : decode cX3_init 62 = .ok (.iload_n 2, 1) := by decide +kernel
theorem dX3_init_63 : decode cX3_init 63 = .ok (.invokespecial 20, 3) := by decide +kernel
theorem dX3_init_66 : decode cX3_init 66 = .ok (.putfield 23, 3) := by decide +kernel
theorem dX3_init_69 : decode cX3_init 69 = .ok (.aload_n 0, 1) := by decide +kernel
theorem dX3_init_70 : decode cX3_init 70 = .ok (.sipush 512, 3) := by decide +kernel
theorem dX3_init_73 : decode cX3_init 73 = .ok (.anewarray 27, 3) := by decide +kernel
theorem dX3_init_76 : decode cX3_init 76 = .ok (.putfield 29, 3) := by decide +kernel
theorem dX3_init_79 : decode cX3_init 79 = .ok (.return_, 1) := by decide +kernel
theorem dX3_update_0 : decode cX3_update 0 = .ok (.aload_n 0, 1) := by decide +kernel
theorem dX3_update_1 : decode cX3_update 1 = .ok (.iload_n 1, 1) := by decide +kernel
theorem dX3_update_2 : decode cX3_update 2 = .ok (.invokevirtual 33, 3) := by decide +kernel
theorem dX3_update_5 : decode cX3_update 5 = .ok (.ifCond .ne 13, 3) := by decide +kernel
theorem dX3_update_8 : decode cX3_update 8 = .ok (.new 37, 3) := by decide +kernel
theorem dX3_update_11 : decode cX3_update 11 = .ok (.dup, 1) := by decide +kernel
theorem dX3_update_12 : decode cX3_update 12 = .ok (.ldc 39, 2) := by decide +kernel
theorem dX3_update_14 : decode cX3_update 14 = .ok (.invokespecial 41, 3) := by decide +kernel
theorem dX3_update_17 : decode cX3_update 17 = .ok (.athrow, 1) := by decide +kernel
theorem dX3_update_18 : decode cX3_update 18 = .ok (.iload_n 2, 1) := by decide +kernel
theorem dX3_update_19 : decode cX3_update 19 = .ok (.ifCond .lt 8, 3) := by decide +kernel
theorem dX3_update_22 : decode cX3_update 22 = .ok (.iload_n 2, 1) := by decide +kernel
theorem dX3_update_23 : decode cX3_update 23 = .ok (.iconst 3, 1) := by decide +kernel
theorem dX3_update_24 : decode cX3_update 24 = .ok (.if_icmp .le 13, 3) := by decide +kernel
theorem dX3_update_27 : decode cX3_update 27 = .ok (.new 44, 3) := by decide +kernel
theorem dX3_update_30 : decode cX3_update 30 = .ok (.dup, 1) := by decide +kernel
theorem dX3_update_31 : decode cX3_update 31 = .ok (.ldc 46, 2) := by decide +kernel
theorem dX3_update_33 : decode cX3_update 33 = .ok (.invokespecial 48, 3) := by decide +kernel
theorem dX3_update_36 : decode cX3_update 36 = .ok (.athrow, 1) := by decide +kernel
theorem dX3_update_37 : decode cX3_update 37 = .ok (.aload_n 0, 1) := by decide +kernel
theorem dX3_update_38 : decode cX3_update 38 = .ok (.iload_n 1, 1) := by decide +kernel
theorem dX3_update_39 : decode cX3_update 39 = .ok (.iload_n 2, 1) := by decide +kernel
theorem dX3_update_40 : decode cX3_update 40 = .ok (.iload_n 3, 1) := by decide +kernel
theorem dX3_update_41 : decode cX3_update 41 = .ok (.iload 4, 2) := by decide +kernel
theorem dX3_update_43 : decode cX3_update 43 = .ok (.invokevirtual 49, 3) := by decide +kernel
theorem dX3_update_46 : decode cX3_update 46 = .ok (.ireturn, 1) := by decide +kernel
theorem dX3_query_0 : decode cX3_query 0 = .ok (.aload_n 0, 1) := by decide +kernel
theorem dX3_query_1 : decode cX3_query 1 = .ok (.iload_n 1, 1) := by decide +kernel
theorem dX3_query_2 : decode cX3_query 2 = .ok (.invokevirtual 33, 3) := by decide +kernel
theorem dX3_query_5 : decode cX3_query 5 = .ok (.ifCond .ne 13, 3) := by decide +kernel
theorem dX3_query_8 : decode cX3_query 8 = .ok (.new 37, 3) := by decide +kernel
theorem dX3_query_11 : decode cX3_query 11 = .ok (.dup, 1) := by decide +kernel
theorem dX3_query_12 : decode cX3_query 12 = .ok (.ldc 39, 2) := by decide +kernel
theorem dX3_query_14 : decode cX3_query 14 = .ok (.invokespecial 41, 3) := by decide +kernel
theorem dX3_query_17 : decode cX3_query 17 = .ok (.athrow, 1) := by decide +kernel
theorem dX3_query_18 : decode cX3_query 18 = .ok (.iload_n 2, 1) := by decide +kernel
theorem dX3_query_19 : decode cX3_query 19 = .ok (.bipush 10, 2) := by decide +kernel
theorem dX3_query_21 : decode cX3_query 21 = .ok (.if_icmp .lt 9, 3) := by decide +kernel
theorem dX3_query_24 : decode cX3_query 24 = .ok (.iload_n 2, 1) := by decide +kernel
theorem dX3_query_25 : decode cX3_query 25 = .ok (.bipush 15, 2) := by decide +kernel
theorem dX3_query_27 : decode cX3_query 27 = .ok (.if_icmp .le 13, 3) := by decide +kernel
theorem dX3_query_30 : decode cX3_query 30 = .ok (.new 44, 3) := by decide +kernel
theorem dX3_query_33 : decode cX3_query 33 = .ok (.dup, 1) := by decide +kernel
theorem dX3_query_34 : decode cX3_query 34 = .ok (.ldc 53, 2) := by decide +kernel
theorem dX3_query_36 : decode cX3_query 36 = .ok (.invokespecial 48, 3) := by decide +kernel
theorem dX3_query_39 : decode cX3_query 39 = .ok (.athrow, 1) := by decide +kernel
theorem dX3_query_40 : decode cX3_query 40 = .ok (.aload_n 0, 1) := by decide +kernel
theorem dX3_query_41 : decode cX3_query 41 = .ok (.iload_n 1, 1) := by decide +kernel
theorem dX3_query_42 : decode cX3_query 42 = .ok (.iload_n 2, 1) := by decide +kernel
theorem dX3_query_43 : decode cX3_query 43 = .ok (.iload_n 3, 1) := by decide +kernel
theorem dX3_query_44 : decode cX3_query 44 = .ok (.iconst 0, 1) := by decide +kernel
theorem dX3_query_45 : decode cX3_query 45 = .ok (.invokevirtual 49, 3) := by decide +kernel
theorem dX3_query_48 : decode cX3_query 48 = .ok (.ireturn, 1) := by decide +kernel
theorem dX3_deliver_0 : decode cX3_deliver 0 = .ok (.aload_n 0, 1) := by decide +kernel
theorem dX3_deliver_1 : decode cX3_deliver 1 = .ok (.getfield 23, 3) := by decide +kernel
theorem dX3_deliver_4 : decode cX3_deliver 4 = .ok (.iload_n 1, 1) := by decide +kernel
theorem dX3_deliver_5 : decode cX3_deliver 5 = .ok (.invokevirtual 55, 3) := by decide +kernel
theorem dX3_deliver_8 : decode cX3_deliver 8 = .ok (.ifCond .ne 13, 3) := by decide +kernel
theorem dX3_deliver_11 : decode cX3_deliver 11 = .ok (.new 37, 3) := by decide +kernel
theorem dX3_deliver_14 : decode cX3_deliver 14 = .ok (.dup, 1) := by decide +kernel
theorem dX3_deliver_15 : decode cX3_deliver 15 = .ok (.ldc 58, 2) := by decide +kernel
theorem dX3_deliver_17 : decode cX3_deliver 17 = .ok (.invokespecial 41, 3) := by decide +kernel
theorem dX3_deliver_20 : decode cX3_deliver 20 = .ok (.athrow, 1) := by decide +kernel
theorem dX3_deliver_21 : decode cX3_deliver 21 = .ok (.aload_n 0, 1) := by decide +kernel
theorem dX3_deliver_22 : decode cX3_deliver 22 = .ok (.iload_n 1, 1) := by decide +kernel
theorem dX3_deliver_23 : decode cX3_deliver 23 = .ok (.invokevirtual 60, 3) := by decide +kernel
theorem dX3_deliver_26 : decode cX3_deliver 26 = .ok (.ireturn, 1) := by decide +kernel
theorem dX3_calm_0 : decode cX3_calm 0 = .ok (.iload_n 1, 1) := by decide +kernel
theorem dX3_calm_1 : decode cX3_calm 1 = .ok (.ifCond .lt 10, 3) := by decide +kernel
theorem dX3_calm_4 : decode cX3_calm 4 = .ok (.iload_n 1, 1) := by decide +kernel
theorem dX3_calm_5 : decode cX3_calm 5 = .ok (.sipush 2000, 3) := by decide +kernel
theorem dX3_calm_8 : decode cX3_calm 8 = .ok (.if_icmp .le 13, 3) := by decide +kernel
theorem dX3_calm_11 : decode cX3_calm 11 = .ok (.new 44, 3) := by decide +kernel
theorem dX3_calm_14 : decode cX3_calm 14 = .ok (.dup, 1) := by decide +kernel
theorem dX3_calm_15 : decode cX3_calm 15 = .ok (.ldc 64, 2) := by decide +kernel
theorem dX3_calm_17 : decode cX3_calm 17 = .ok (.invokespecial 48, 3) := by decide +kernel
theorem dX3_calm_20 : decode cX3_calm 20 = .ok (.athrow, 1) := by decide +kernel
theorem dX3_calm_21 : decode cX3_calm 21 = .ok (.iconst 0, 1) := by decide +kernel
theorem dX3_calm_22 : decode cX3_calm 22 = .ok (.istore_n 2, 1) := by decide +kernel
theorem dX3_calm_23 : decode cX3_calm 23 = .ok (.iload_n 2, 1) := by decide +kernel
theorem dX3_calm_24 : decode cX3_calm 24 = .ok (.iload_n 1, 1) := by decide +kernel
theorem dX3_calm_25 : decode cX3_calm 25 = .ok (.if_icmp .ge 29, 3) := by decide +kernel
theorem dX3_calm_28 : decode cX3_calm 28 = .ok (.aload_n 0, 1) := by decide +kernel
theorem dX3_calm_29 : decode cX3_calm 29 = .ok (.getfield 23, 3) := by decide +kernel
theorem dX3_calm_32 : decode cX3_calm 32 = .ok (.iconst 0, 1) := by decide +kernel
theorem dX3_calm_33 : decode cX3_calm 33 = .ok (.invokevirtual 55, 3) := by decide +kernel
theorem dX3_calm_36 : decode cX3_calm 36 = .ok (.ifCond .eq 18, 3) := by decide +kernel
theorem dX3_calm_39 : decode cX3_calm 39 = .ok (.aload_n 0, 1) := by decide +kernel
theorem dX3_calm_40 : decode cX3_calm 40 = .ok (.iconst 0, 1) := by decide +kernel
theorem dX3_calm_41 : decode cX3_calm 41 = .ok (.invokevirtual 60, 3) := by decide +kernel
theorem dX3_calm_44 : decode cX3_calm 44 = .ok (.iconst (-1), 1) := by decide +kernel
theorem dX3_calm_45 : decode cX3_calm 45 = .ok (.if_icmp .eq 9, 3) := by decide +kernel
theorem dX3_calm_48 : decode cX3_calm 48 = .ok (.iinc 2 1, 3) := by decide +kernel
theorem dX3_calm_51 : decode cX3_calm 51 = .ok (.goto (-28), 3) := by decide +kernel
theorem dX3_calm_54 : decode cX3_calm 54 = .ok (.iload_n 2, 1) := by decide +kernel
theorem dX3_calm_55 : decode cX3_calm 55 = .ok (.ireturn, 1) := by decide +kernel
