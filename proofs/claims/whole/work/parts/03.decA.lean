theorem dX0_init_0 : decode cX0_init 0 = .ok (.aload_n 0, 1) := by decide +kernel
theorem dX0_init_1 : decode cX0_init 1 = .ok (.invokespecial 3, 3) := by decide +kernel
theorem dX0_init_4 : decode cX0_init 4 = .ok (.aload_n 0, 1) := by decide +kernel
theorem dX0_init_5 : decode cX0_init 5 = .ok (.iconst (-1), 1) := by decide +kernel
theorem dX0_init_6 : decode cX0_init 6 = .ok (.putfield 9, 3) := by decide +kernel
theorem dX0_init_9 : decode cX0_init 9 = .ok (.aload_n 0, 1) := by decide +kernel
theorem dX0_init_10 : decode cX0_init 10 = .ok (.iconst 0, 1) := by decide +kernel
theorem dX0_init_11 : decode cX0_init 11 = .ok (.putfield 15, 3) := by decide +kernel
theorem dX0_init_14 : decode cX0_init 14 = .ok (.return_, 1) := by decide +kernel
theorem dX0_forget_0 : decode cX0_forget 0 = .ok (.aload_n 0, 1) := by decide +kernel
theorem dX0_forget_1 : decode cX0_forget 1 = .ok (.iconst (-1), 1) := by decide +kernel
theorem dX0_forget_2 : decode cX0_forget 2 = .ok (.putfield 9, 3) := by decide +kernel
theorem dX0_forget_5 : decode cX0_forget 5 = .ok (.aload_n 0, 1) := by decide +kernel
theorem dX0_forget_6 : decode cX0_forget 6 = .ok (.iconst 0, 1) := by decide +kernel
theorem dX0_forget_7 : decode cX0_forget 7 = .ok (.putfield 15, 3) := by decide +kernel
theorem dX0_forget_10 : decode cX0_forget 10 = .ok (.return_, 1) := by decide +kernel
theorem dX0_offer_0 : decode cX0_offer 0 = .ok (.aload_n 0, 1) := by decide +kernel
theorem dX0_offer_1 : decode cX0_offer 1 = .ok (.getfield 9, 3) := by decide +kernel
theorem dX0_offer_4 : decode cX0_offer 4 = .ok (.iconst (-1), 1) := by decide +kernel
theorem dX0_offer_5 : decode cX0_offer 5 = .ok (.if_icmp .eq 11, 3) := by decide +kernel
theorem dX0_offer_8 : decode cX0_offer 8 = .ok (.iload_n 2, 1) := by decide +kernel
theorem dX0_offer_9 : decode cX0_offer 9 = .ok (.aload_n 0, 1) := by decide +kernel
theorem dX0_offer_10 : decode cX0_offer 10 = .ok (.getfield 15, 3) := by decide +kernel
theorem dX0_offer_13 : decode cX0_offer 13 = .ok (.if_icmp .le 13, 3) := by decide +kernel
theorem dX0_offer_16 : decode cX0_offer 16 = .ok (.aload_n 0, 1) := by decide +kernel
theorem dX0_offer_17 : decode cX0_offer 17 = .ok (.iload_n 1, 1) := by decide +kernel
theorem dX0_offer_18 : decode cX0_offer 18 = .ok (.putfield 9, 3) := by decide +kernel
theorem dX0_offer_21 : decode cX0_offer 21 = .ok (.aload_n 0, 1) := by decide +kernel
theorem dX0_offer_22 : decode cX0_offer 22 = .ok (.iload_n 2, 1) := by decide +kernel
theorem dX0_offer_23 : decode cX0_offer 23 = .ok (.putfield 15, 3) := by decide +kernel
theorem dX0_offer_26 : decode cX0_offer 26 = .ok (.return_, 1) := by decide +kernel
theorem dX1_init_0 : decode cX1_init 0 = .ok (.aload_n 0, 1) := by decide +kernel
theorem dX1_init_1 : decode cX1_init 1 = .ok (.invokespecial 1, 3) := by decide +kernel
theorem dX1_init_4 : decode cX1_init 4 = .ok (.return_, 1) := by decide +kernel
theorem dX1_isKind_0 : decode cX1_isKind 0 = .ok (.iload_n 1, 1) := by decide +kernel
theorem dX1_isKind_1 : decode cX1_isKind 1 = .ok (.iconst 3, 1) := by decide +kernel
theorem dX1_isKind_2 : decode cX1_isKind 2 = .ok (.if_icmp .eq 11, 3) := by decide +kernel
theorem dX1_isKind_5 : decode cX1_isKind 5 = .ok (.aload_n 0, 1) := by decide +kernel
theorem dX1_isKind_6 : decode cX1_isKind 6 = .ok (.iload_n 1, 1) := by decide +kernel
theorem dX1_isKind_7 : decode cX1_isKind 7 = .ok (.invokespecial 7, 3) := by decide +kernel
theorem dX1_isKind_10 : decode cX1_isKind 10 = .ok (.ifCond .eq 7, 3) := by decide +kernel
theorem dX1_isKind_13 : decode cX1_isKind 13 = .ok (.iconst 1, 1) := by decide +kernel
theorem dX1_isKind_14 : decode cX1_isKind 14 = .ok (.goto 4, 3) := by decide +kernel
theorem dX1_isKind_17 : decode cX1_isKind 17 = .ok (.iconst 0, 1) := by decide +kernel
theorem dX1_isKind_18 : decode cX1_isKind 18 = .ok (.ireturn, 1) := by decide +kernel
theorem dX1_mayTouch_0 : decode cX1_mayTouch 0 = .ok (.iconst 1, 1) := by decide +kernel
theorem dX1_mayTouch_1 : decode cX1_mayTouch 1 = .ok (.ireturn, 1) := by decide +kernel
theorem dX1_prefers_0 : decode cX1_prefers 0 = .ok (.iload_n 1, 1) := by decide +kernel
theorem dX1_prefers_1 : decode cX1_prefers 1 = .ok (.iload_n 2, 1) := by decide +kernel
theorem dX1_prefers_2 : decode cX1_prefers 2 = .ok (.if_icmp .le 7, 3) := by decide +kernel
theorem dX1_prefers_5 : decode cX1_prefers 5 = .ok (.iconst 1, 1) := by decide +kernel
theorem dX1_prefers_6 : decode cX1_prefers 6 = .ok (.goto 4, 3) := by decide +kernel
theorem dX1_prefers_9 : decode cX1_prefers 9 = .ok (.iconst 0, 1) := by decide +kernel
theorem dX1_prefers_10 : decode cX1_prefers 10 = .ok (.ireturn, 1) := by decide +kernel
theorem dX1_fixes_0 : decode cX1_fixes 0 = .ok (.iconst 1, 1) := by decide +kernel
theorem dX1_fixes_1 : decode cX1_fixes 1 = .ok (.ireturn, 1) := by decide +kernel
theorem dX2_init_0 : decode cX2_init 0 = .ok (.aload_n 0, 1) := by decide +kernel
theorem dX2_init_1 : decode cX2_init 1 = .ok (.invokespecial 1, 3) := by decide +kernel
theorem dX2_init_4 : decode cX2_init 4 = .ok (.return_, 1) := by decide +kernel
theorem dX2_isKind_0 : decode cX2_isKind 0 = .ok (.iload_n 1, 1) := by decide +kernel
theorem dX2_isKind_1 : decode cX2_isKind 1 = .ok (.iconst 1, 1) := by decide +kernel
theorem dX2_isKind_2 : decode cX2_isKind 2 = .ok (.if_icmp .eq 11, 3) := by decide +kernel
theorem dX2_isKind_5 : decode cX2_isKind 5 = .ok (.aload_n 0, 1) := by decide +kernel
theorem dX2_isKind_6 : decode cX2_isKind 6 = .ok (.iload_n 1, 1) := by decide +kernel
theorem dX2_isKind_7 : decode cX2_isKind 7 = .ok (.invokespecial 7, 3) := by decide +kernel
theorem dX2_isKind_10 : decode cX2_isKind 10 = .ok (.ifCond .eq 7, 3) := by decide +kernel
theorem dX2_isKind_13 : decode cX2_isKind 13 = .ok (.iconst 1, 1) := by decide +kernel
theorem dX2_isKind_14 : decode cX2_isKind 14 = .ok (.goto 4, 3) := by decide +kernel
theorem dX2_isKind_17 : decode cX2_isKind 17 = .ok (.iconst 0, 1) := by decide +kernel
theorem dX2_isKind_18 : decode cX2_isKind 18 = .ok (.ireturn, 1) := by decide +kernel
theorem dX2_mayTouch_0 : decode cX2_mayTouch 0 = .ok (.aload_n 0, 1) := by decide +kernel
theorem dX2_mayTouch_1 : decode cX2_mayTouch 1 = .ok (.iload_n 1, 1) := by decide +kernel
theorem dX2_mayTouch_2 : decode cX2_mayTouch 2 = .ok (.iload_n 2, 1) := by decide +kernel
theorem dX2_mayTouch_3 : decode cX2_mayTouch 3 = .ok (.iload_n 3, 1) := by decide +kernel
theorem dX2_mayTouch_4 : decode cX2_mayTouch 4 = .ok (.invokespecial 11, 3) := by decide +kernel
theorem dX2_mayTouch_7 : decode cX2_mayTouch 7 = .ok (.ifCond .ne 8, 3) := by decide +kernel
theorem dX2_mayTouch_10 : decode cX2_mayTouch 10 = .ok (.iload_n 1, 1) := by decide +kernel
theorem dX2_mayTouch_11 : decode cX2_mayTouch 11 = .ok (.iconst 2, 1) := by decide +kernel
theorem dX2_mayTouch_12 : decode cX2_mayTouch 12 = .ok (.if_icmp .ge 7, 3) := by decide +kernel
theorem dX2_mayTouch_15 : decode cX2_mayTouch 15 = .ok (.iconst 1, 1) := by decide +kernel
theorem dX2_mayTouch_16 : decode cX2_mayTouch 16 = .ok (.goto 4, 3) := by decide +kernel
theorem dX2_mayTouch_19 : decode cX2_mayTouch 19 = .ok (.iconst 0, 1) := by decide +kernel
theorem dX2_mayTouch_20 : decode cX2_mayTouch 20 = .ok (.ireturn, 1) := by decide +kernel
theorem dX2_prefers_0 : decode cX2_prefers 0 = .ok (.iconst 1, 1) := by decide +kernel
theorem dX2_prefers_1 : decode cX2_prefers 1 = .ok (.ireturn, 1) := by decide +kernel
theorem dX2_turns_0 : decode cX2_turns 0 = .ok (.aload_n 0, 1) := by decide +kernel
theorem dX2_turns_1 : decode cX2_turns 1 = .ok (.invokespecial 15, 3) := by decide +kernel
theorem dX2_turns_4 : decode cX2_turns 4 = .ok (.iconst 1, 1) := by decide +kernel
theorem dX2_turns_5 : decode cX2_turns 5 = .ok (.iadd, 1) := by decide +kernel
theorem dX2_turns_6 : decode cX2_turns 6 = .ok (.ireturn, 1) := by decide +kernel
theorem dX3_init_0 : decode cX3_init 0 = .ok (.aload_n 0, 1) := by decide +kernel
theorem dX3_init_1 : decode cX3_init 1 = .ok (.invokespecial 1, 3) := by decide +kernel
theorem dX3_init_4 : decode cX3_init 4 = .ok (.return_, 1) := by decide +kernel
theorem dX3_isKind_0 : decode cX3_isKind 0 = .ok (.iload_n 1, 1) := by decide +kernel
theorem dX3_isKind_1 : decode cX3_isKind 1 = .ok (.iconst 4, 1) := by decide +kernel
theorem dX3_isKind_2 : decode cX3_isKind 2 = .ok (.if_icmp .eq 11, 3) := by decide +kernel
theorem dX3_isKind_5 : decode cX3_isKind 5 = .ok (.aload_n 0, 1) := by decide +kernel
theorem dX3_isKind_6 : decode cX3_isKind 6 = .ok (.iload_n 1, 1) := by decide +kernel
theorem dX3_isKind_7 : decode cX3_isKind 7 = .ok (.invokespecial 7, 3) := by decide +kernel
theorem dX3_isKind_10 : decode cX3_isKind 10 = .ok (.ifCond .eq 7, 3) := by decide +kernel
theorem dX3_isKind_13 : decode cX3_isKind 13 = .ok (.iconst 1, 1) := by decide +kernel
theorem dX3_isKind_14 : decode cX3_isKind 14 = .ok (.goto 4, 3) := by decide +kernel
theorem dX3_isKind_17 : decode cX3_isKind 17 = .ok (.iconst 0, 1) := by decide +kernel
theorem dX3_isKind_18 : decode cX3_isKind 18 = .ok (.ireturn, 1) := by decide +kernel
theorem dX3_turns_0 : decode cX3_turns 0 = .ok (.aload_n 0, 1) := by decide +kernel
theorem dX3_turns_1 : decode cX3_turns 1 = .ok (.invokespecial 11, 3) := by decide +kernel
theorem dX3_turns_4 : decode cX3_turns 4 = .ok (.iconst 1, 1) := by decide +kernel
theorem dX3_turns_5 : decode cX3_turns 5 = .ok (.iadd, 1) := by decide +kernel
theorem dX3_turns_6 : decode cX3_turns 6 = .ok (.ireturn, 1) := by decide +kernel
theorem dX3_fixes_0 : decode cX3_fixes 0 = .ok (.iload_n 1, 1) := by decide +kernel
theorem dX3_fixes_1 : decode cX3_fixes 1 = .ok (.iconst 5, 1) := by decide +kernel
theorem dX3_fixes_2 : decode cX3_fixes 2 = .ok (.if_icmp .lt 7, 3) := by decide +kernel
theorem dX3_fixes_5 : decode cX3_fixes 5 = .ok (.iconst 1, 1) := by decide +kernel
theorem dX3_fixes_6 : decode cX3_fixes 6 = .ok (.goto 4, 3) := by decide +kernel
theorem dX3_fixes_9 : decode cX3_fixes 9 = .ok (.iconst 0, 1) := by decide +kernel
theorem dX3_fixes_10 : decode cX3_fixes 10 = .ok (.ireturn, 1) := by decide +kernel
theorem dX4_init_0 : decode cX4_init 0 = .ok (.aload_n 0, 1) := by decide +kernel
theorem dX4_init_1 : decode cX4_init 1 = .ok (.invokespecial 1, 3) := by decide +kernel
theorem dX4_init_4 : decode cX4_init 4 = .ok (.return_, 1) := by decide +kernel
theorem dX4_isKind_0 : decode cX4_isKind 0 = .ok (.iload_n 1, 1) := by decide +kernel
theorem dX4_isKind_1 : decode cX4_isKind 1 = .ok (.ifCond .ne 7, 3) := by decide +kernel
theorem dX4_isKind_4 : decode cX4_isKind 4 = .ok (.iconst 1, 1) := by decide +kernel
theorem dX4_isKind_5 : decode cX4_isKind 5 = .ok (.goto 4, 3) := by decide +kernel
theorem dX4_isKind_8 : decode cX4_isKind 8 = .ok (.iconst 0, 1) := by decide +kernel
theorem dX4_isKind_9 : decode cX4_isKind 9 = .ok (.ireturn, 1) := by decide +kernel
theorem dX4_mayTouch_0 : decode cX4_mayTouch 0 = .ok (.iload_n 1, 1) := by decide +kernel
theorem dX4_mayTouch_1 : decode cX4_mayTouch 1 = .ok (.iload_n 2, 1) := by decide +kernel
theorem dX4_mayTouch_2 : decode cX4_mayTouch 2 = .ok (.if_icmp .ge 7, 3) := by decide +kernel
theorem dX4_mayTouch_5 : decode cX4_mayTouch 5 = .ok (.iconst 1, 1) := by decide +kernel
theorem dX4_mayTouch_6 : decode cX4_mayTouch 6 = .ok (.goto 4, 3) := by decide +kernel
theorem dX4_mayTouch_9 : decode cX4_mayTouch 9 = .ok (.iconst 0, 1) := by decide +kernel
theorem dX4_mayTouch_10 : decode cX4_mayTouch 10 = .ok (.ireturn, 1) := by decide +kernel
theorem dX4_prefers_0 : decode cX4_prefers 0 = .ok (.iconst 0, 1) := by decide +kernel
theorem dX4_prefers_1 : decode cX4_prefers 1 = .ok (.ireturn, 1) := by decide +kernel
theorem dX4_turns_0 : decode cX4_turns 0 = .ok (.iconst 1, 1) := by decide +kernel
theorem dX4_turns_1 : decode cX4_turns 1 = .ok (.ireturn, 1) := by decide +kernel
theorem dX4_fixes_0 : decode cX4_fixes 0 = .ok (.iconst 0, 1) := by decide +kernel
theorem dX4_fixes_1 : decode cX4_fixes 1 = .ok (.ireturn, 1) := by decide +kernel
theorem dX5_init_0 : decode cX5_init 0 = .ok (.aload_n 0, 1) := by decide +kernel
theorem dX5_init_1 : decode cX5_init 1 = .ok (.invokespecial 1, 3) := by decide +kernel
theorem dX5_init_4 : decode cX5_init 4 = .ok (.return_, 1) := by decide +kernel
theorem dX5_isKind_0 : decode cX5_isKind 0 = .ok (.iload_n 1, 1) := by decide +kernel
theorem dX5_isKind_1 : decode cX5_isKind 1 = .ok (.iconst 5, 1) := by decide +kernel
theorem dX5_isKind_2 : decode cX5_isKind 2 = .ok (.if_icmp .eq 11, 3) := by decide +kernel
theorem dX5_isKind_5 : decode cX5_isKind 5 = .ok (.aload_n 0, 1) := by decide +kernel
theorem dX5_isKind_6 : decode cX5_isKind 6 = .ok (.iload_n 1, 1) := by decide +kernel
theorem dX5_isKind_7 : decode cX5_isKind 7 = .ok (.invokespecial 7, 3) := by decide +kernel
theorem dX5_isKind_10 : decode cX5_isKind 10 = .ok (.ifCond .eq 7, 3) := by decide +kernel
theorem dX5_isKind_13 : decode cX5_isKind 13 = .ok (.iconst 1, 1) := by decide +kernel
theorem dX5_isKind_14 : decode cX5_isKind 14 = .ok (.goto 4, 3) := by decide +kernel
theorem dX5_isKind_17 : decode cX5_isKind 17 = .ok (.iconst 0, 1) := by decide +kernel
theorem dX5_isKind_18 : decode cX5_isKind 18 = .ok (.ireturn, 1) := by decide +kernel
theorem dX5_mayTouch_0 : decode cX5_mayTouch 0 = .ok (.aload_n 0, 1) := by decide +kernel
theorem dX5_mayTouch_1 : decode cX5_mayTouch 1 = .ok (.iload_n 1, 1) := by decide +kernel
theorem dX5_mayTouch_2 : decode cX5_mayTouch 2 = .ok (.iload_n 2, 1) := by decide +kernel
theorem dX5_mayTouch_3 : decode cX5_mayTouch 3 = .ok (.iload_n 3, 1) := by decide +kernel
theorem dX5_mayTouch_4 : decode cX5_mayTouch 4 = .ok (.invokespecial 11, 3) := by decide +kernel
theorem dX5_mayTouch_7 : decode cX5_mayTouch 7 = .ok (.ifCond .ne 15, 3) := by decide +kernel
theorem dX5_mayTouch_10 : decode cX5_mayTouch 10 = .ok (.iload_n 3, 1) := by decide +kernel
theorem dX5_mayTouch_11 : decode cX5_mayTouch 11 = .ok (.iconst 2, 1) := by decide +kernel
theorem dX5_mayTouch_12 : decode cX5_mayTouch 12 = .ok (.irem, 1) := by decide +kernel
theorem dX5_mayTouch_13 : decode cX5_mayTouch 13 = .ok (.iconst 1, 1) := by decide +kernel
theorem dX5_mayTouch_14 : decode cX5_mayTouch 14 = .ok (.if_icmp .ne 12, 3) := by decide +kernel
theorem dX5_mayTouch_17 : decode cX5_mayTouch 17 = .ok (.iload_n 1, 1) := by decide +kernel
theorem dX5_mayTouch_18 : decode cX5_mayTouch 18 = .ok (.iload_n 2, 1) := by decide +kernel
theorem dX5_mayTouch_19 : decode cX5_mayTouch 19 = .ok (.if_icmp .ge 7, 3) := by decide +kernel
theorem dX5_mayTouch_22 : decode cX5_mayTouch 22 = .ok (.iconst 1, 1) := by decide +kernel
theorem dX5_mayTouch_23 : decode cX5_mayTouch 23 = .ok (.goto 4, 3) := by decide +kernel
theorem dX5_mayTouch_26 : decode cX5_mayTouch 26 = .ok (.iconst 0, 1) := by decide +kernel
theorem dX5_mayTouch_27 : decode cX5_mayTouch 27 = .ok (.ireturn, 1) := by decide +kernel
theorem dX6_init_0 : decode cX6_init 0 = .ok (.aload_n 0, 1) := by decide +kernel
theorem dX6_init_1 : decode cX6_init 1 = .ok (.invokespecial 3, 3) := by decide +kernel
theorem dX6_init_4 : decode cX6_init 4 = .ok (.aload_n 0, 1) := by decide +kernel
theorem dX6_init_5 : decode cX6_init 5 = .ok (.aload_n 1, 1) := by decide +kernel
theorem dX6_init_6 : decode cX6_init 6 = .ok (.putfield 9, 3) := by decide +kernel
theorem dX6_init_9 : decode cX6_init 9 = .ok (.aload_n 0, 1) := by decide +kernel
theorem dX6_init_10 : decode cX6_init 10 = .ok (.iconst 0, 1) := by decide +kernel
theorem dX6_init_11 : decode cX6_init 11 = .ok (.putfield 15, 3) := by decide +kernel
theorem dX6_init_14 : decode cX6_init 14 = .ok (.aload_n 0, 1) := by decide +kernel
theorem dX6_init_15 : decode cX6_init 15 = .ok (.iconst 3, 1) := by decide +kernel
theorem dX6_init_16 : decode cX6_init 16 = .ok (.putfield 19, 3) := by decide +kernel
theorem dX6_init_19 : decode cX6_init 19 = .ok (.aload_n 0, 1) := by decide +kernel
theorem dX6_init_20 : decode cX6_init 20 = .ok (.iconst 0, 1) := by decide +kernel
theorem dX6_init_21 : decode cX6_init 21 = .ok (.putfield 22, 3) := by decide +kernel
theorem dX6_init_24 : decode cX6_init 24 = .ok (.aload_n 0, 1) := by decide +kernel
theorem dX6_init_25 : decode cX6_init 25 = .ok (.iconst 0, 1) := by decide +kernel
theorem dX6_init_26 : decode cX6_init 26 = .ok (.putfield 25, 3) := by decide +kernel
theorem dX6_init_29 : decode cX6_init 29 = .ok (.aload_n 0, 1) := by decide +kernel
theorem dX6_init_30 : decode cX6_init 30 = .ok (.bipush 10, 2) := by decide +kernel
theorem dX6_init_32 : decode cX6_init 32 = .ok (.newarray .int, 2) := by decide +kernel
theorem dX6_init_34 : decode cX6_init 34 = .ok (.putfield 28, 3) := by decide +kernel
theorem dX6_init_37 : decode cX6_init 37 = .ok (.aload_n 0, 1) := by decide +kernel
theorem dX6_init_38 : decode cX6_init 38 = .ok (.bipush 10, 2) := by decide +kernel
theorem dX6_init_40 : decode cX6_init 40 = .ok (.newarray .int, 2) := by decide +kernel
theorem dX6_init_42 : decode cX6_init 42 = .ok (.putfield 32, 3) := by decide +kernel
theorem dX6_init_45 : decode cX6_init 45 = .ok (.aload_n 0, 1) := by decide +kernel
theorem dX6_init_46 : decode cX6_init 46 = .ok (.bipush 10, 2) := by decide +kernel
theorem dX6_init_48 : decode cX6_init 48 = .ok (.newarray .int, 2) := by decide +kernel
theorem dX6_init_50 : decode cX6_init 50 = .ok (.putfield 35, 3) := by decide +kernel
theorem dX6_init_53 : decode cX6_init 53 = .ok (.aload_n 0, 1) := by decide +kernel
theorem dX6_init_54 : decode cX6_init 54 = .ok (.bipush 6, 2) := by decide +kernel
theorem dX6_init_56 : decode cX6_init 56 = .ok (.newarray .int, 2) := by decide +kernel
theorem dX6_init_58 : decode cX6_init 58 = .ok (.putfield 38, 3) := by decide +kernel
theorem dX6_init_61 : decode cX6_init 61 = .ok (.aload_n 0, 1) := by decide +kernel
theorem dX6_init_62 : decode cX6_init 62 = .ok (.bipush 6, 2) := by decide +kernel
theorem dX6_init_64 : decode cX6_init 64 = .ok (.newarray .int, 2) := by decide +kernel
theorem dX6_init_66 : decode cX6_init 66 = .ok (.putfield 41, 3) := by decide +kernel
theorem dX6_init_69 : decode cX6_init 69 = .ok (.aload_n 0, 1) := by decide +kernel
theorem dX6_init_70 : decode cX6_init 70 = .ok (.bipush 60, 2) := by decide +kernel
theorem dX6_init_72 : decode cX6_init 72 = .ok (.newarray .int, 2) := by decide +kernel
theorem dX6_init_74 : decode cX6_init 74 = .ok (.putfield 44, 3) := by decide +kernel
theorem dX6_init_77 : decode cX6_init 77 = .ok (.return_, 1) := by decide +kernel
theorem dX6_wish_0 : decode cX6_wish 0 = .ok (.iload_n 0, 1) := by decide +kernel
theorem dX6_wish_1 : decode cX6_wish 1 = .ok (.bipush 10, 2) := by decide +kernel
theorem dX6_wish_3 : decode cX6_wish 3 = .ok (.imul, 1) := by decide +kernel
theorem dX6_wish_4 : decode cX6_wish 4 = .ok (.iload_n 1, 1) := by decide +kernel
theorem dX6_wish_5 : decode cX6_wish 5 = .ok (.iadd, 1) := by decide +kernel
theorem dX6_wish_6 : decode cX6_wish 6 = .ok (.ireturn, 1) := by decide +kernel
theorem dX6_copyFrom_0 : decode cX6_copyFrom 0 = .ok (.aload_n 0, 1) := by decide +kernel
theorem dX6_copyFrom_1 : decode cX6_copyFrom 1 = .ok (.aload_n 1, 1) := by decide +kernel
theorem dX6_copyFrom_2 : decode cX6_copyFrom 2 = .ok (.getfield 15, 3) := by decide +kernel
theorem dX6_copyFrom_5 : decode cX6_copyFrom 5 = .ok (.putfield 15, 3) := by decide +kernel
theorem dX6_copyFrom_8 : decode cX6_copyFrom 8 = .ok (.aload_n 0, 1) := by decide +kernel
theorem dX6_copyFrom_9 : decode cX6_copyFrom 9 = .ok (.aload_n 1, 1) := by decide +kernel
theorem dX6_copyFrom_10 : decode cX6_copyFrom 10 = .ok (.getfield 19, 3) := by decide +kernel
theorem dX6_copyFrom_13 : decode cX6_copyFrom 13 = .ok (.putfield 19, 3) := by decide +kernel
theorem dX6_copyFrom_16 : decode cX6_copyFrom 16 = .ok (.aload_n 0, 1) := by decide +kernel
theorem dX6_copyFrom_17 : decode cX6_copyFrom 17 = .ok (.aload_n 1, 1) := by decide +kernel
theorem dX6_copyFrom_18 : decode cX6_copyFrom 18 = .ok (.getfield 22, 3) := by decide +kernel
theorem dX6_copyFrom_21 : decode cX6_copyFrom 21 = .ok (.putfield 22, 3) := by decide +kernel
theorem dX6_copyFrom_24 : decode cX6_copyFrom 24 = .ok (.aload_n 0, 1) := by decide +kernel
theorem dX6_copyFrom_25 : decode cX6_copyFrom 25 = .ok (.aload_n 1, 1) := by decide +kernel
theorem dX6_copyFrom_26 : decode cX6_copyFrom 26 = .ok (.getfield 25, 3) := by decide +kernel
theorem dX6_copyFrom_29 : decode cX6_copyFrom 29 = .ok (.putfield 25, 3) := by decide +kernel
theorem dX6_copyFrom_32 : decode cX6_copyFrom 32 = .ok (.aload_n 1, 1) := by decide +kernel
theorem dX6_copyFrom_33 : decode cX6_copyFrom 33 = .ok (.getfield 28, 3) := by decide +kernel
theorem dX6_copyFrom_36 : decode cX6_copyFrom 36 = .ok (.iconst 0, 1) := by decide +kernel
theorem dX6_copyFrom_37 : decode cX6_copyFrom 37 = .ok (.aload_n 0, 1) := by decide +kernel
theorem dX6_copyFrom_38 : decode cX6_copyFrom 38 = .ok (.getfield 28, 3) := by decide +kernel
theorem dX6_copyFrom_41 : decode cX6_copyFrom 41 = .ok (.iconst 0, 1) := by decide +kernel
theorem dX6_copyFrom_42 : decode cX6_copyFrom 42 = .ok (.bipush 10, 2) := by decide +kernel
theorem dX6_copyFrom_44 : decode cX6_copyFrom 44 = .ok (.invokestatic 47, 3) := by decide +kernel
theorem dX6_copyFrom_47 : decode cX6_copyFrom 47 = .ok (.aload_n 1, 1) := by decide +kernel
theorem dX6_copyFrom_48 : decode cX6_copyFrom 48 = .ok (.getfield 32, 3) := by decide +kernel
theorem dX6_copyFrom_51 : decode cX6_copyFrom 51 = .ok (.iconst 0, 1) := by decide +kernel
theorem dX6_copyFrom_52 : decode cX6_copyFrom 52 = .ok (.aload_n 0, 1) := by decide +kernel
theorem dX6_copyFrom_53 : decode cX6_copyFrom 53 = .ok (.getfield 32, 3) := by decide +kernel
theorem dX6_copyFrom_56 : decode cX6_copyFrom 56 = .ok (.iconst 0, 1) := by decide +kernel
theorem dX6_copyFrom_57 : decode cX6_copyFrom 57 = .ok (.bipush 10, 2) := by decide +kernel
theorem dX6_copyFrom_59 : decode cX6_copyFrom 59 = .ok (.invokestatic 47, 3) := by decide +kernel
theorem dX6_copyFrom_62 : decode cX6_copyFrom 62 = .ok (.aload_n 1, 1) := by decide +kernel
theorem dX6_copyFrom_63 : decode cX6_copyFrom 63 = .ok (.getfield 35, 3) := by decide +kernel
theorem dX6_copyFrom_66 : decode cX6_copyFrom 66 = .ok (.iconst 0, 1) := by decide +kernel
theorem dX6_copyFrom_67 : decode cX6_copyFrom 67 = .ok (.aload_n 0, 1) := by decide +kernel
theorem dX6_copyFrom_68 : decode cX6_copyFrom 68 = .ok (.getfield 35, 3) := by decide +kernel
theorem dX6_copyFrom_71 : decode cX6_copyFrom 71 = .ok (.iconst 0, 1) := by decide +kernel
theorem dX6_copyFrom_72 : decode cX6_copyFrom 72 = .ok (.bipush 10, 2) := by decide +kernel
theorem dX6_copyFrom_74 : decode cX6_copyFrom 74 = .ok (.invokestatic 47, 3) := by decide +kernel
theorem dX6_copyFrom_77 : decode cX6_copyFrom 77 = .ok (.aload_n 1, 1) := by decide +kernel
theorem dX6_copyFrom_78 : decode cX6_copyFrom 78 = .ok (.getfield 38, 3) := by decide +kernel
theorem dX6_copyFrom_81 : decode cX6_copyFrom 81 = .ok (.iconst 0, 1) := by decide +kernel
theorem dX6_copyFrom_82 : decode cX6_copyFrom 82 = .ok (.aload_n 0, 1) := by decide +kernel
theorem dX6_copyFrom_83 : decode cX6_copyFrom 83 = .ok (.getfield 38, 3) := by decide +kernel
theorem dX6_copyFrom_86 : decode cX6_copyFrom 86 = .ok (.iconst 0, 1) := by decide +kernel
theorem dX6_copyFrom_87 : decode cX6_copyFrom 87 = .ok (.bipush 6, 2) := by decide +kernel
theorem dX6_copyFrom_89 : decode cX6_copyFrom 89 = .ok (.invokestatic 47, 3) := by decide +kernel
theorem dX6_copyFrom_92 : decode cX6_copyFrom 92 = .ok (.aload_n 1, 1) := by decide +kernel
theorem dX6_copyFrom_93 : decode cX6_copyFrom 93 = .ok (.getfield 41, 3) := by decide +kernel
theorem dX6_copyFrom_96 : decode cX6_copyFrom 96 = .ok (.iconst 0, 1) := by decide +kernel
theorem dX6_copyFrom_97 : decode cX6_copyFrom 97 = .ok (.aload_n 0, 1) := by decide +kernel
theorem dX6_copyFrom_98 : decode cX6_copyFrom 98 = .ok (.getfield 41, 3) := by decide +kernel
theorem dX6_copyFrom_101 : decode cX6_copyFrom 101 = .ok (.iconst 0, 1) := by decide +kernel
theorem dX6_copyFrom_102 : decode cX6_copyFrom 102 = .ok (.bipush 6, 2) := by decide +kernel
theorem dX6_copyFrom_104 : decode cX6_copyFrom 104 = .ok (.invokestatic 47, 3) := by decide +kernel
theorem dX6_copyFrom_107 : decode cX6_copyFrom 107 = .ok (.aload_n 1, 1) := by decide +kernel
theorem dX6_copyFrom_108 : decode cX6_copyFrom 108 = .ok (.getfield 44, 3) := by decide +kernel
theorem dX6_copyFrom_111 : decode cX6_copyFrom 111 = .ok (.iconst 0, 1) := by decide +kernel
theorem dX6_copyFrom_112 : decode cX6_copyFrom 112 = .ok (.aload_n 0, 1) := by decide +kernel
theorem dX6_copyFrom_113 : decode cX6_copyFrom 113 = .ok (.getfield 44, 3) := by decide +kernel
theorem dX6_copyFrom_116 : decode cX6_copyFrom 116 = .ok (.iconst 0, 1) := by decide +kernel
theorem dX6_copyFrom_117 : decode cX6_copyFrom 117 = .ok (.bipush 60, 2) := by decide +kernel
theorem dX6_copyFrom_119 : decode cX6_copyFrom 119 = .ok (.invokestatic 47, 3) := by decide +kernel
theorem dX6_copyFrom_122 : decode cX6_copyFrom 122 = .ok (.return_, 1) := by decide +kernel
theorem dX6_addSlip_0 : decode cX6_addSlip 0 = .ok (.aload_n 0, 1) := by decide +kernel
theorem dX6_addSlip_1 : decode cX6_addSlip 1 = .ok (.getfield 28, 3) := by decide +kernel
theorem dX6_addSlip_4 : decode cX6_addSlip 4 = .ok (.aload_n 0, 1) := by decide +kernel
theorem dX6_addSlip_5 : decode cX6_addSlip 5 = .ok (.getfield 22, 3) := by decide +kernel
theorem dX6_addSlip_8 : decode cX6_addSlip 8 = .ok (.iload_n 1, 1) := by decide +kernel
theorem dX6_addSlip_9 : decode cX6_addSlip 9 = .ok (.iastore, 1) := by decide +kernel
theorem dX6_addSlip_10 : decode cX6_addSlip 10 = .ok (.aload_n 0, 1) := by decide +kernel
theorem dX6_addSlip_11 : decode cX6_addSlip 11 = .ok (.getfield 32, 3) := by decide +kernel
theorem dX6_addSlip_14 : decode cX6_addSlip 14 = .ok (.aload_n 0, 1) := by decide +kernel
theorem dX6_addSlip_15 : decode cX6_addSlip 15 = .ok (.getfield 22, 3) := by decide +kernel
theorem dX6_addSlip_18 : decode cX6_addSlip 18 = .ok (.iconst 0, 1) := by decide +kernel
theorem dX6_addSlip_19 : decode cX6_addSlip 19 = .ok (.iastore, 1) := by decide +kernel
theorem dX6_addSlip_20 : decode cX6_addSlip 20 = .ok (.aload_n 0, 1) := by decide +kernel
theorem dX6_addSlip_21 : decode cX6_addSlip 21 = .ok (.getfield 35, 3) := by decide +kernel
theorem dX6_addSlip_24 : decode cX6_addSlip 24 = .ok (.aload_n 0, 1) := by decide +kernel
theorem dX6_addSlip_25 : decode cX6_addSlip 25 = .ok (.getfield 22, 3) := by decide +kernel
theorem dX6_addSlip_28 : decode cX6_addSlip 28 = .ok (.iload_n 2, 1) := by decide +kernel
theorem dX6_addSlip_29 : decode cX6_addSlip 29 = .ok (.iastore, 1) := by decide +kernel
theorem dX6_addSlip_30 : decode cX6_addSlip 30 = .ok (.aload_n 0, 1) := by decide +kernel
theorem dX6_addSlip_31 : decode cX6_addSlip 31 = .ok (.dup, 1) := by decide +kernel
theorem dX6_addSlip_32 : decode cX6_addSlip 32 = .ok (.getfield 22, 3) := by decide +kernel
theorem dX6_addSlip_35 : decode cX6_addSlip 35 = .ok (.dup_x1, 1) := by decide +kernel
theorem dX6_addSlip_36 : decode cX6_addSlip 36 = .ok (.iconst 1, 1) := by decide +kernel
theorem dX6_addSlip_37 : decode cX6_addSlip 37 = .ok (.iadd, 1) := by decide +kernel
theorem dX6_addSlip_38 : decode cX6_addSlip 38 = .ok (.putfield 22, 3) := by decide +kernel
theorem dX6_addSlip_41 : decode cX6_addSlip 41 = .ok (.ireturn, 1) := by decide +kernel
theorem dX6_addPerson_0 : decode cX6_addPerson 0 = .ok (.aload_n 0, 1) := by decide +kernel
theorem dX6_addPerson_1 : decode cX6_addPerson 1 = .ok (.getfield 38, 3) := by decide +kernel
theorem dX6_addPerson_4 : decode cX6_addPerson 4 = .ok (.aload_n 0, 1) := by decide +kernel
theorem dX6_addPerson_5 : decode cX6_addPerson 5 = .ok (.getfield 25, 3) := by decide +kernel
theorem dX6_addPerson_8 : decode cX6_addPerson 8 = .ok (.iload_n 1, 1) := by decide +kernel
theorem dX6_addPerson_9 : decode cX6_addPerson 9 = .ok (.iastore, 1) := by decide +kernel
theorem dX6_addPerson_10 : decode cX6_addPerson 10 = .ok (.aload_n 0, 1) := by decide +kernel
theorem dX6_addPerson_11 : decode cX6_addPerson 11 = .ok (.getfield 41, 3) := by decide +kernel
theorem dX6_addPerson_14 : decode cX6_addPerson 14 = .ok (.aload_n 0, 1) := by decide +kernel
theorem dX6_addPerson_15 : decode cX6_addPerson 15 = .ok (.getfield 25, 3) := by decide +kernel
theorem dX6_addPerson_18 : decode cX6_addPerson 18 = .ok (.iconst 0, 1) := by decide +kernel
theorem dX6_addPerson_19 : decode cX6_addPerson 19 = .ok (.iastore, 1) := by decide +kernel
theorem dX6_addPerson_20 : decode cX6_addPerson 20 = .ok (.iconst 0, 1) := by decide +kernel
theorem dX6_addPerson_21 : decode cX6_addPerson 21 = .ok (.istore_n 2, 1) := by decide +kernel
theorem dX6_addPerson_22 : decode cX6_addPerson 22 = .ok (.iload_n 2, 1) := by decide +kernel
theorem dX6_addPerson_23 : decode cX6_addPerson 23 = .ok (.bipush 10, 2) := by decide +kernel
theorem dX6_addPerson_25 : decode cX6_addPerson 25 = .ok (.if_icmp .ge 26, 3) := by decide +kernel
theorem dX6_addPerson_28 : decode cX6_addPerson 28 = .ok (.aload_n 0, 1) := by decide +kernel
theorem dX6_addPerson_29 : decode cX6_addPerson 29 = .ok (.getfield 44, 3) := by decide +kernel
theorem dX6_addPerson_32 : decode cX6_addPerson 32 = .ok (.aload_n 0, 1) := by decide +kernel
theorem dX6_addPerson_33 : decode cX6_addPerson 33 = .ok (.getfield 25, 3) := by decide +kernel
theorem dX6_addPerson_36 : decode cX6_addPerson 36 = .ok (.iload_n 2, 1) := by decide +kernel
theorem dX6_addPerson_37 : decode cX6_addPerson 37 = .ok (.invokestatic 53, 3) := by decide +kernel
theorem dX6_addPerson_40 : decode cX6_addPerson 40 = .ok (.iload_n 2, 1) := by decide +kernel
theorem dX6_addPerson_41 : decode cX6_addPerson 41 = .ok (.bipush 6, 2) := by decide +kernel
theorem dX6_addPerson_43 : decode cX6_addPerson 43 = .ok (.irem, 1) := by decide +kernel
theorem dX6_addPerson_44 : decode cX6_addPerson 44 = .ok (.iastore, 1) := by decide +kernel
theorem dX6_addPerson_45 : decode cX6_addPerson 45 = .ok (.iinc 2 1, 3) := by decide +kernel
theorem dX6_addPerson_48 : decode cX6_addPerson 48 = .ok (.goto (-26), 3) := by decide +kernel
theorem dX6_addPerson_51 : decode cX6_addPerson 51 = .ok (.aload_n 0, 1) := by decide +kernel
theorem dX6_addPerson_52 : decode cX6_addPerson 52 = .ok (.dup, 1) := by decide +kernel
theorem dX6_addPerson_53 : decode cX6_addPerson 53 = .ok (.getfield 25, 3) := by decide +kernel
theorem dX6_addPerson_56 : decode cX6_addPerson 56 = .ok (.dup_x1, 1) := by decide +kernel
theorem dX6_addPerson_57 : decode cX6_addPerson 57 = .ok (.iconst 1, 1) := by decide +kernel
theorem dX6_addPerson_58 : decode cX6_addPerson 58 = .ok (.iadd, 1) := by decide +kernel
theorem dX6_addPerson_59 : decode cX6_addPerson 59 = .ok (.putfield 25, 3) := by decide +kernel
theorem dX6_addPerson_62 : decode cX6_addPerson 62 = .ok (.ireturn, 1) := by decide +kernel
theorem dX6_whoseTurn_0 : decode cX6_whoseTurn 0 = .ok (.aload_n 0, 1) := by decide +kernel
theorem dX6_whoseTurn_1 : decode cX6_whoseTurn 1 = .ok (.getfield 25, 3) := by decide +kernel
theorem dX6_whoseTurn_4 : decode cX6_whoseTurn 4 = .ok (.ifCond .le 15, 3) := by decide +kernel
theorem dX6_whoseTurn_7 : decode cX6_whoseTurn 7 = .ok (.aload_n 0, 1) := by decide +kernel
theorem dX6_whoseTurn_8 : decode cX6_whoseTurn 8 = .ok (.getfield 15, 3) := by decide +kernel
theorem dX6_whoseTurn_11 : decode cX6_whoseTurn 11 = .ok (.aload_n 0, 1) := by decide +kernel
theorem dX6_whoseTurn_12 : decode cX6_whoseTurn 12 = .ok (.getfield 25, 3) := by decide +kernel
theorem dX6_whoseTurn_15 : decode cX6_whoseTurn 15 = .ok (.irem, 1) := by decide +kernel
theorem dX6_whoseTurn_16 : decode cX6_whoseTurn 16 = .ok (.goto 4, 3) := by decide +kernel
theorem dX6_whoseTurn_19 : decode cX6_whoseTurn 19 = .ok (.iconst (-1), 1) := by decide +kernel
theorem dX6_whoseTurn_20 : decode cX6_whoseTurn 20 = .ok (.ireturn, 1) := by decide +kernel
theorem dX6_passMinutes_0 : decode cX6_passMinutes 0 = .ok (.iconst 0, 1) := by decide +kernel
theorem dX6_passMinutes_1 : decode cX6_passMinutes 1 = .ok (.istore_n 2, 1) := by decide +kernel
theorem dX6_passMinutes_2 : decode cX6_passMinutes 2 = .ok (.iload_n 2, 1) := by decide +kernel
theorem dX6_passMinutes_3 : decode cX6_passMinutes 3 = .ok (.iload_n 1, 1) := by decide +kernel
theorem dX6_passMinutes_4 : decode cX6_passMinutes 4 = .ok (.if_icmp .ge 14, 3) := by decide +kernel
theorem dX6_passMinutes_7 : decode cX6_passMinutes 7 = .ok (.aload_n 0, 1) := by decide +kernel
theorem dX6_passMinutes_8 : decode cX6_passMinutes 8 = .ok (.invokevirtual 57, 3) := by decide +kernel
theorem dX6_passMinutes_11 : decode cX6_passMinutes 11 = .ok (.pop, 1) := by decide +kernel
theorem dX6_passMinutes_12 : decode cX6_passMinutes 12 = .ok (.iinc 2 1, 3) := by decide +kernel
theorem dX6_passMinutes_15 : decode cX6_passMinutes 15 = .ok (.goto (-13), 3) := by decide +kernel
theorem dX6_passMinutes_18 : decode cX6_passMinutes 18 = .ok (.return_, 1) := by decide +kernel
theorem dX6_passMinute_0 : decode cX6_passMinute 0 = .ok (.aload_n 0, 1) := by decide +kernel
theorem dX6_passMinute_1 : decode cX6_passMinute 1 = .ok (.invokevirtual 61, 3) := by decide +kernel
theorem dX6_passMinute_4 : decode cX6_passMinute 4 = .ok (.istore_n 1, 1) := by decide +kernel
theorem dX6_passMinute_5 : decode cX6_passMinute 5 = .ok (.iconst 0, 1) := by decide +kernel
theorem dX6_passMinute_6 : decode cX6_passMinute 6 = .ok (.istore_n 2, 1) := by decide +kernel
theorem dX6_passMinute_7 : decode cX6_passMinute 7 = .ok (.iload_n 1, 1) := by decide +kernel
theorem dX6_passMinute_8 : decode cX6_passMinute 8 = .ok (.iconst (-1), 1) := by decide +kernel
theorem dX6_passMinute_9 : decode cX6_passMinute 9 = .ok (.if_icmp .eq 60, 3) := by decide +kernel
theorem dX6_passMinute_12 : decode cX6_passMinute 12 = .ok (.aload_n 0, 1) := by decide +kernel
theorem dX6_passMinute_13 : decode cX6_passMinute 13 = .ok (.getfield 41, 3) := by decide +kernel
theorem dX6_passMinute_16 : decode cX6_passMinute 16 = .ok (.iload_n 1, 1) := by decide +kernel
theorem dX6_passMinute_17 : decode cX6_passMinute 17 = .ok (.iaload, 1) := by decide +kernel
theorem dX6_passMinute_18 : decode cX6_passMinute 18 = .ok (.ifCond .ne 51, 3) := by decide +kernel
theorem dX6_passMinute_21 : decode cX6_passMinute 21 = .ok (.aload_n 0, 1) := by decide +kernel
theorem dX6_passMinute_22 : decode cX6_passMinute 22 = .ok (.iload_n 1, 1) := by decide +kernel
theorem dX6_passMinute_23 : decode cX6_passMinute 23 = .ok (.invokevirtual 64, 3) := by decide +kernel
theorem dX6_passMinute_26 : decode cX6_passMinute 26 = .ok (.istore_n 3, 1) := by decide +kernel
theorem dX6_passMinute_27 : decode cX6_passMinute 27 = .ok (.iconst 0, 1) := by decide +kernel
theorem dX6_passMinute_28 : decode cX6_passMinute 28 = .ok (.istore 4, 2) := by decide +kernel
theorem dX6_passMinute_30 : decode cX6_passMinute 30 = .ok (.iload 4, 2) := by decide +kernel
theorem dX6_passMinute_32 : decode cX6_passMinute 32 = .ok (.iload_n 3, 1) := by decide +kernel
theorem dX6_passMinute_33 : decode cX6_passMinute 33 = .ok (.if_icmp .ge 36, 3) := by decide +kernel
theorem dX6_passMinute_36 : decode cX6_passMinute 36 = .ok (.aload_n 0, 1) := by decide +kernel
theorem dX6_passMinute_37 : decode cX6_passMinute 37 = .ok (.iload_n 1, 1) := by decide +kernel
theorem dX6_passMinute_38 : decode cX6_passMinute 38 = .ok (.invokevirtual 68, 3) := by decide +kernel
theorem dX6_passMinute_41 : decode cX6_passMinute 41 = .ok (.istore 5, 2) := by decide +kernel
theorem dX6_passMinute_43 : decode cX6_passMinute 43 = .ok (.iload 5, 2) := by decide +kernel
theorem dX6_passMinute_45 : decode cX6_passMinute 45 = .ok (.iconst (-1), 1) := by decide +kernel
theorem dX6_passMinute_46 : decode cX6_passMinute 46 = .ok (.if_icmp .eq 17, 3) := by decide +kernel
theorem dX6_passMinute_49 : decode cX6_passMinute 49 = .ok (.aload_n 0, 1) := by decide +kernel
theorem dX6_passMinute_50 : decode cX6_passMinute 50 = .ok (.iload_n 1, 1) := by decide +kernel
theorem dX6_passMinute_51 : decode cX6_passMinute 51 = .ok (.iload 5, 2) := by decide +kernel
theorem dX6_passMinute_53 : decode cX6_passMinute 53 = .ok (.invokevirtual 71, 3) := by decide +kernel
theorem dX6_passMinute_56 : decode cX6_passMinute 56 = .ok (.iload_n 2, 1) := by decide +kernel
theorem dX6_passMinute_57 : decode cX6_passMinute 57 = .ok (.iconst 1, 1) := by decide +kernel
theorem dX6_passMinute_58 : decode cX6_passMinute 58 = .ok (.iload 5, 2) := by decide +kernel
theorem dX6_passMinute_60 : decode cX6_passMinute 60 = .ok (.ishl, 1) := by decide +kernel
theorem dX6_passMinute_61 : decode cX6_passMinute 61 = .ok (.ior, 1) := by decide +kernel
theorem dX6_passMinute_62 : decode cX6_passMinute 62 = .ok (.istore_n 2, 1) := by decide +kernel
theorem dX6_passMinute_63 : decode cX6_passMinute 63 = .ok (.iinc 4 1, 3) := by decide +kernel
theorem dX6_passMinute_66 : decode cX6_passMinute 66 = .ok (.goto (-36), 3) := by decide +kernel
theorem dX6_passMinute_69 : decode cX6_passMinute 69 = .ok (.aload_n 0, 1) := by decide +kernel
theorem dX6_passMinute_70 : decode cX6_passMinute 70 = .ok (.dup, 1) := by decide +kernel
theorem dX6_passMinute_71 : decode cX6_passMinute 71 = .ok (.getfield 15, 3) := by decide +kernel
theorem dX6_passMinute_74 : decode cX6_passMinute 74 = .ok (.iconst 1, 1) := by decide +kernel
theorem dX6_passMinute_75 : decode cX6_passMinute 75 = .ok (.iadd, 1) := by decide +kernel
theorem dX6_passMinute_76 : decode cX6_passMinute 76 = .ok (.putfield 15, 3) := by decide +kernel
theorem dX6_passMinute_79 : decode cX6_passMinute 79 = .ok (.iload_n 2, 1) := by decide +kernel
theorem dX6_passMinute_80 : decode cX6_passMinute 80 = .ok (.ireturn, 1) := by decide +kernel
theorem dX6_shift_0 : decode cX6_shift 0 = .ok (.aload_n 0, 1) := by decide +kernel
theorem dX6_shift_1 : decode cX6_shift 1 = .ok (.getfield 28, 3) := by decide +kernel
theorem dX6_shift_4 : decode cX6_shift 4 = .ok (.iload_n 2, 1) := by decide +kernel
theorem dX6_shift_5 : decode cX6_shift 5 = .ok (.aload_n 0, 1) := by decide +kernel
theorem dX6_shift_6 : decode cX6_shift 6 = .ok (.getfield 44, 3) := by decide +kernel
theorem dX6_shift_9 : decode cX6_shift 9 = .ok (.iload_n 1, 1) := by decide +kernel
theorem dX6_shift_10 : decode cX6_shift 10 = .ok (.iload_n 2, 1) := by decide +kernel
theorem dX6_shift_11 : decode cX6_shift 11 = .ok (.invokestatic 53, 3) := by decide +kernel
theorem dX6_shift_14 : decode cX6_shift 14 = .ok (.iaload, 1) := by decide +kernel
theorem dX6_shift_15 : decode cX6_shift 15 = .ok (.iastore, 1) := by decide +kernel
theorem dX6_shift_16 : decode cX6_shift 16 = .ok (.aload_n 0, 1) := by decide +kernel
theorem dX6_shift_17 : decode cX6_shift 17 = .ok (.getfield 32, 3) := by decide +kernel
theorem dX6_shift_20 : decode cX6_shift 20 = .ok (.iload_n 2, 1) := by decide +kernel
theorem dX6_shift_21 : decode cX6_shift 21 = .ok (.aload_n 0, 1) := by decide +kernel
theorem dX6_shift_22 : decode cX6_shift 22 = .ok (.getfield 32, 3) := by decide +kernel
theorem dX6_shift_25 : decode cX6_shift 25 = .ok (.iload_n 2, 1) := by decide +kernel
theorem dX6_shift_26 : decode cX6_shift 26 = .ok (.iaload, 1) := by decide +kernel
theorem dX6_shift_27 : decode cX6_shift 27 = .ok (.iconst 1, 1) := by decide +kernel
theorem dX6_shift_28 : decode cX6_shift 28 = .ok (.iadd, 1) := by decide +kernel
theorem dX6_shift_29 : decode cX6_shift 29 = .ok (.sipush 999, 3) := by decide +kernel
theorem dX6_shift_32 : decode cX6_shift 32 = .ok (.invokestatic 75, 3) := by decide +kernel
theorem dX6_shift_35 : decode cX6_shift 35 = .ok (.iastore, 1) := by decide +kernel
theorem dX6_shift_36 : decode cX6_shift 36 = .ok (.aload_n 0, 1) := by decide +kernel
theorem dX6_shift_37 : decode cX6_shift 37 = .ok (.getfield 35, 3) := by decide +kernel
theorem dX6_shift_40 : decode cX6_shift 40 = .ok (.iload_n 2, 1) := by decide +kernel
theorem dX6_shift_41 : decode cX6_shift 41 = .ok (.aload_n 0, 1) := by decide +kernel
theorem dX6_shift_42 : decode cX6_shift 42 = .ok (.getfield 9, 3) := by decide +kernel
theorem dX6_shift_45 : decode cX6_shift 45 = .ok (.aload_n 0, 1) := by decide +kernel
theorem dX6_shift_46 : decode cX6_shift 46 = .ok (.getfield 38, 3) := by decide +kernel
theorem dX6_shift_49 : decode cX6_shift 49 = .ok (.iload_n 1, 1) := by decide +kernel
theorem dX6_shift_50 : decode cX6_shift 50 = .ok (.iaload, 1) := by decide +kernel
theorem dX6_shift_51 : decode cX6_shift 51 = .ok (.aaload, 1) := by decide +kernel
theorem dX6_shift_52 : decode cX6_shift 52 = .ok (.aload_n 0, 1) := by decide +kernel
theorem dX6_shift_53 : decode cX6_shift 53 = .ok (.getfield 32, 3) := by decide +kernel
theorem dX6_shift_56 : decode cX6_shift 56 = .ok (.iload_n 2, 1) := by decide +kernel
theorem dX6_shift_57 : decode cX6_shift 57 = .ok (.iaload, 1) := by decide +kernel
theorem dX6_shift_58 : decode cX6_shift 58 = .ok (.invokevirtual 80, 3) := by decide +kernel
theorem dX6_shift_61 : decode cX6_shift 61 = .ok (.ifCond .eq 7, 3) := by decide +kernel
theorem dX6_shift_64 : decode cX6_shift 64 = .ok (.iconst 1, 1) := by decide +kernel
theorem dX6_shift_65 : decode cX6_shift 65 = .ok (.goto 4, 3) := by decide +kernel
theorem dX6_shift_68 : decode cX6_shift 68 = .ok (.iconst 0, 1) := by decide +kernel
theorem dX6_shift_69 : decode cX6_shift 69 = .ok (.iastore, 1) := by decide +kernel
theorem dX6_shift_70 : decode cX6_shift 70 = .ok (.return_, 1) := by decide +kernel
theorem dX6_pickOf_0 : decode cX6_pickOf 0 = .ok (.aload_n 0, 1) := by decide +kernel
theorem dX6_pickOf_1 : decode cX6_pickOf 1 = .ok (.getfield 9, 3) := by decide +kernel
theorem dX6_pickOf_4 : decode cX6_pickOf 4 = .ok (.aload_n 0, 1) := by decide +kernel
theorem dX6_pickOf_5 : decode cX6_pickOf 5 = .ok (.getfield 38, 3) := by decide +kernel
theorem dX6_pickOf_8 : decode cX6_pickOf 8 = .ok (.iload_n 1, 1) := by decide +kernel
theorem dX6_pickOf_9 : decode cX6_pickOf 9 = .ok (.iaload, 1) := by decide +kernel
theorem dX6_pickOf_10 : decode cX6_pickOf 10 = .ok (.aaload, 1) := by decide +kernel
theorem dX6_pickOf_11 : decode cX6_pickOf 11 = .ok (.astore_n 2, 1) := by decide +kernel
theorem dX6_pickOf_12 : decode cX6_pickOf 12 = .ok (.iconst (-1), 1) := by decide +kernel
theorem dX6_pickOf_13 : decode cX6_pickOf 13 = .ok (.istore_n 3, 1) := by decide +kernel
theorem dX6_pickOf_14 : decode cX6_pickOf 14 = .ok (.iconst 0, 1) := by decide +kernel
theorem dX6_pickOf_15 : decode cX6_pickOf 15 = .ok (.istore 4, 2) := by decide +kernel
theorem dX6_pickOf_17 : decode cX6_pickOf 17 = .ok (.iload 4, 2) := by decide +kernel
theorem dX6_pickOf_19 : decode cX6_pickOf 19 = .ok (.aload_n 0, 1) := by decide +kernel
theorem dX6_pickOf_20 : decode cX6_pickOf 20 = .ok (.getfield 22, 3) := by decide +kernel
theorem dX6_pickOf_23 : decode cX6_pickOf 23 = .ok (.if_icmp .ge 79, 3) := by decide +kernel
theorem dX6_pickOf_26 : decode cX6_pickOf 26 = .ok (.aload_n 0, 1) := by decide +kernel
theorem dX6_pickOf_27 : decode cX6_pickOf 27 = .ok (.getfield 35, 3) := by decide +kernel
theorem dX6_pickOf_30 : decode cX6_pickOf 30 = .ok (.iload 4, 2) := by decide +kernel
theorem dX6_pickOf_32 : decode cX6_pickOf 32 = .ok (.iaload, 1) := by decide +kernel
theorem dX6_pickOf_33 : decode cX6_pickOf 33 = .ok (.ifCond .ne 63, 3) := by decide +kernel
theorem dX6_pickOf_36 : decode cX6_pickOf 36 = .ok (.aload_n 0, 1) := by decide +kernel
theorem dX6_pickOf_37 : decode cX6_pickOf 37 = .ok (.iload_n 1, 1) := by decide +kernel
theorem dX6_pickOf_38 : decode cX6_pickOf 38 = .ok (.iload 4, 2) := by decide +kernel
theorem dX6_pickOf_40 : decode cX6_pickOf 40 = .ok (.invokevirtual 86, 3) := by decide +kernel
theorem dX6_pickOf_43 : decode cX6_pickOf 43 = .ok (.ifCond .ne 53, 3) := by decide +kernel
theorem dX6_pickOf_46 : decode cX6_pickOf 46 = .ok (.aload_n 2, 1) := by decide +kernel
theorem dX6_pickOf_47 : decode cX6_pickOf 47 = .ok (.aload_n 0, 1) := by decide +kernel
theorem dX6_pickOf_48 : decode cX6_pickOf 48 = .ok (.getfield 32, 3) := by decide +kernel
theorem dX6_pickOf_51 : decode cX6_pickOf 51 = .ok (.iload 4, 2) := by decide +kernel
theorem dX6_pickOf_53 : decode cX6_pickOf 53 = .ok (.iaload, 1) := by decide +kernel
theorem dX6_pickOf_54 : decode cX6_pickOf 54 = .ok (.aload_n 0, 1) := by decide +kernel
theorem dX6_pickOf_55 : decode cX6_pickOf 55 = .ok (.getfield 19, 3) := by decide +kernel
theorem dX6_pickOf_58 : decode cX6_pickOf 58 = .ok (.aload_n 0, 1) := by decide +kernel
theorem dX6_pickOf_59 : decode cX6_pickOf 59 = .ok (.getfield 15, 3) := by decide +kernel
theorem dX6_pickOf_62 : decode cX6_pickOf 62 = .ok (.invokevirtual 90, 3) := by decide +kernel
theorem dX6_pickOf_65 : decode cX6_pickOf 65 = .ok (.ifCond .eq 31, 3) := by decide +kernel
theorem dX6_pickOf_68 : decode cX6_pickOf 68 = .ok (.iload_n 3, 1) := by decide +kernel
theorem dX6_pickOf_69 : decode cX6_pickOf 69 = .ok (.iconst (-1), 1) := by decide +kernel
theorem dX6_pickOf_70 : decode cX6_pickOf 70 = .ok (.if_icmp .eq 23, 3) := by decide +kernel
theorem dX6_pickOf_73 : decode cX6_pickOf 73 = .ok (.aload_n 2, 1) := by decide +kernel
theorem dX6_pickOf_74 : decode cX6_pickOf 74 = .ok (.aload_n 0, 1) := by decide +kernel
theorem dX6_pickOf_75 : decode cX6_pickOf 75 = .ok (.getfield 32, 3) := by decide +kernel
theorem dX6_pickOf_78 : decode cX6_pickOf 78 = .ok (.iload 4, 2) := by decide +kernel
theorem dX6_pickOf_80 : decode cX6_pickOf 80 = .ok (.iaload, 1) := by decide +kernel
theorem dX6_pickOf_81 : decode cX6_pickOf 81 = .ok (.aload_n 0, 1) := by decide +kernel
theorem dX6_pickOf_82 : decode cX6_pickOf 82 = .ok (.getfield 32, 3) := by decide +kernel
theorem dX6_pickOf_85 : decode cX6_pickOf 85 = .ok (.iload_n 3, 1) := by decide +kernel
theorem dX6_pickOf_86 : decode cX6_pickOf 86 = .ok (.iaload, 1) := by decide +kernel
theorem dX6_pickOf_87 : decode cX6_pickOf 87 = .ok (.invokevirtual 94, 3) := by decide +kernel
theorem dX6_pickOf_90 : decode cX6_pickOf 90 = .ok (.ifCond .eq 6, 3) := by decide +kernel
theorem dX6_pickOf_93 : decode cX6_pickOf 93 = .ok (.iload 4, 2) := by decide +kernel
theorem dX6_pickOf_95 : decode cX6_pickOf 95 = .ok (.istore_n 3, 1) := by decide +kernel
theorem dX6_pickOf_96 : decode cX6_pickOf 96 = .ok (.iinc 4 1, 3) := by decide +kernel
theorem dX6_pickOf_99 : decode cX6_pickOf 99 = .ok (.goto (-82), 3) := by decide +kernel
theorem dX6_pickOf_102 : decode cX6_pickOf 102 = .ok (.iload_n 3, 1) := by decide +kernel
theorem dX6_pickOf_103 : decode cX6_pickOf 103 = .ok (.ireturn, 1) := by decide +kernel
theorem dX6_turnsOf_0 : decode cX6_turnsOf 0 = .ok (.aload_n 0, 1) := by decide +kernel
theorem dX6_turnsOf_1 : decode cX6_turnsOf 1 = .ok (.getfield 9, 3) := by decide +kernel
theorem dX6_turnsOf_4 : decode cX6_turnsOf 4 = .ok (.aload_n 0, 1) := by decide +kernel
theorem dX6_turnsOf_5 : decode cX6_turnsOf 5 = .ok (.getfield 38, 3) := by decide +kernel
theorem dX6_turnsOf_8 : decode cX6_turnsOf 8 = .ok (.iload_n 1, 1) := by decide +kernel
theorem dX6_turnsOf_9 : decode cX6_turnsOf 9 = .ok (.iaload, 1) := by decide +kernel
theorem dX6_turnsOf_10 : decode cX6_turnsOf 10 = .ok (.aaload, 1) := by decide +kernel
theorem dX6_turnsOf_11 : decode cX6_turnsOf 11 = .ok (.invokevirtual 97, 3) := by decide +kernel
theorem dX6_turnsOf_14 : decode cX6_turnsOf 14 = .ok (.ireturn, 1) := by decide +kernel
theorem dX6_isOfKind_0 : decode cX6_isOfKind 0 = .ok (.aload_n 0, 1) := by decide +kernel
theorem dX6_isOfKind_1 : decode cX6_isOfKind 1 = .ok (.getfield 9, 3) := by decide +kernel
theorem dX6_isOfKind_4 : decode cX6_isOfKind 4 = .ok (.aload_n 0, 1) := by decide +kernel
theorem dX6_isOfKind_5 : decode cX6_isOfKind 5 = .ok (.getfield 38, 3) := by decide +kernel
theorem dX6_isOfKind_8 : decode cX6_isOfKind 8 = .ok (.iload_n 1, 1) := by decide +kernel
theorem dX6_isOfKind_9 : decode cX6_isOfKind 9 = .ok (.iaload, 1) := by decide +kernel
theorem dX6_isOfKind_10 : decode cX6_isOfKind 10 = .ok (.aaload, 1) := by decide +kernel
theorem dX6_isOfKind_11 : decode cX6_isOfKind 11 = .ok (.iload_n 2, 1) := by decide +kernel
theorem dX6_isOfKind_12 : decode cX6_isOfKind 12 = .ok (.invokevirtual 100, 3) := by decide +kernel
theorem dX6_isOfKind_15 : decode cX6_isOfKind 15 = .ok (.ireturn, 1) := by decide +kernel
theorem dX6_pleases_0 : decode cX6_pleases 0 = .ok (.aload_n 0, 1) := by decide +kernel
theorem dX6_pleases_1 : decode cX6_pleases 1 = .ok (.getfield 28, 3) := by decide +kernel
theorem dX6_pleases_4 : decode cX6_pleases 4 = .ok (.iload_n 2, 1) := by decide +kernel
theorem dX6_pleases_5 : decode cX6_pleases 5 = .ok (.iaload, 1) := by decide +kernel
theorem dX6_pleases_6 : decode cX6_pleases 6 = .ok (.aload_n 0, 1) := by decide +kernel
theorem dX6_pleases_7 : decode cX6_pleases 7 = .ok (.getfield 44, 3) := by decide +kernel
theorem dX6_pleases_10 : decode cX6_pleases 10 = .ok (.iload_n 1, 1) := by decide +kernel
theorem dX6_pleases_11 : decode cX6_pleases 11 = .ok (.iload_n 2, 1) := by decide +kernel
theorem dX6_pleases_12 : decode cX6_pleases 12 = .ok (.invokestatic 53, 3) := by decide +kernel
theorem dX6_pleases_15 : decode cX6_pleases 15 = .ok (.iaload, 1) := by decide +kernel
theorem dX6_pleases_16 : decode cX6_pleases 16 = .ok (.if_icmp .ne 7, 3) := by decide +kernel
theorem dX6_pleases_19 : decode cX6_pleases 19 = .ok (.iconst 1, 1) := by decide +kernel
theorem dX6_pleases_20 : decode cX6_pleases 20 = .ok (.goto 4, 3) := by decide +kernel
theorem dX6_pleases_23 : decode cX6_pleases 23 = .ok (.iconst 0, 1) := by decide +kernel
theorem dX6_pleases_24 : decode cX6_pleases 24 = .ok (.ireturn, 1) := by decide +kernel
theorem dX6_slipsPleasing_0 : decode cX6_slipsPleasing 0 = .ok (.iconst 0, 1) := by decide +kernel
theorem dX6_slipsPleasing_1 : decode cX6_slipsPleasing 1 = .ok (.istore_n 2, 1) := by decide +kernel
theorem dX6_slipsPleasing_2 : decode cX6_slipsPleasing 2 = .ok (.iconst 0, 1) := by decide +kernel
theorem dX6_slipsPleasing_3 : decode cX6_slipsPleasing 3 = .ok (.istore_n 3, 1) := by decide +kernel
theorem dX6_slipsPleasing_4 : decode cX6_slipsPleasing 4 = .ok (.iload_n 3, 1) := by decide +kernel
theorem dX6_slipsPleasing_5 : decode cX6_slipsPleasing 5 = .ok (.aload_n 0, 1) := by decide +kernel
theorem dX6_slipsPleasing_6 : decode cX6_slipsPleasing 6 = .ok (.getfield 22, 3) := by decide +kernel
theorem dX6_slipsPleasing_9 : decode cX6_slipsPleasing 9 = .ok (.if_icmp .ge 24, 3) := by decide +kernel
theorem dX6_slipsPleasing_12 : decode cX6_slipsPleasing 12 = .ok (.aload_n 0, 1) := by decide +kernel
theorem dX6_slipsPleasing_13 : decode cX6_slipsPleasing 13 = .ok (.iload_n 1, 1) := by decide +kernel
theorem dX6_slipsPleasing_14 : decode cX6_slipsPleasing 14 = .ok (.iload_n 3, 1) := by decide +kernel
theorem dX6_slipsPleasing_15 : decode cX6_slipsPleasing 15 = .ok (.invokevirtual 86, 3) := by decide +kernel
theorem dX6_slipsPleasing_18 : decode cX6_slipsPleasing 18 = .ok (.ifCond .eq 9, 3) := by decide +kernel
theorem dX6_slipsPleasing_21 : decode cX6_slipsPleasing 21 = .ok (.iload_n 2, 1) := by decide +kernel
theorem dX6_slipsPleasing_22 : decode cX6_slipsPleasing 22 = .ok (.iconst 1, 1) := by decide +kernel
theorem dX6_slipsPleasing_23 : decode cX6_slipsPleasing 23 = .ok (.iload_n 3, 1) := by decide +kernel
theorem dX6_slipsPleasing_24 : decode cX6_slipsPleasing 24 = .ok (.ishl, 1) := by decide +kernel
theorem dX6_slipsPleasing_25 : decode cX6_slipsPleasing 25 = .ok (.ior, 1) := by decide +kernel
theorem dX6_slipsPleasing_26 : decode cX6_slipsPleasing 26 = .ok (.istore_n 2, 1) := by decide +kernel
theorem dX6_slipsPleasing_27 : decode cX6_slipsPleasing 27 = .ok (.iinc 3 1, 3) := by decide +kernel
theorem dX6_slipsPleasing_30 : decode cX6_slipsPleasing 30 = .ok (.goto (-26), 3) := by decide +kernel
theorem dX6_slipsPleasing_33 : decode cX6_slipsPleasing 33 = .ok (.iload_n 2, 1) := by decide +kernel
theorem dX6_slipsPleasing_34 : decode cX6_slipsPleasing 34 = .ok (.ireturn, 1) := by decide +kernel
theorem dX6_wayCount_0 : decode cX6_wayCount 0 = .ok (.aload_n 0, 1) := by decide +kernel
theorem dX6_wayCount_1 : decode cX6_wayCount 1 = .ok (.iload_n 1, 1) := by decide +kernel
theorem dX6_wayCount_2 : decode cX6_wayCount 2 = .ok (.invokevirtual 103, 3) := by decide +kernel
theorem dX6_wayCount_5 : decode cX6_wayCount 5 = .ok (.invokestatic 106, 3) := by decide +kernel
theorem dX6_wayCount_8 : decode cX6_wayCount 8 = .ok (.ireturn, 1) := by decide +kernel
theorem dX6_peopleContentWith_0 : decode cX6_peopleContentWith 0 = .ok (.iconst 0, 1) := by decide +kernel
theorem dX6_peopleContentWith_1 : decode cX6_peopleContentWith 1 = .ok (.istore_n 2, 1) := by decide +kernel
theorem dX6_peopleContentWith_2 : decode cX6_peopleContentWith 2 = .ok (.iconst 0, 1) := by decide +kernel
theorem dX6_peopleContentWith_3 : decode cX6_peopleContentWith 3 = .ok (.istore_n 3, 1) := by decide +kernel
theorem dX6_peopleContentWith_4 : decode cX6_peopleContentWith 4 = .ok (.iload_n 3, 1) := by decide +kernel
theorem dX6_peopleContentWith_5 : decode cX6_peopleContentWith 5 = .ok (.aload_n 0, 1) := by decide +kernel
theorem dX6_peopleContentWith_6 : decode cX6_peopleContentWith 6 = .ok (.getfield 25, 3) := by decide +kernel
theorem dX6_peopleContentWith_9 : decode cX6_peopleContentWith 9 = .ok (.if_icmp .ge 24, 3) := by decide +kernel
theorem dX6_peopleContentWith_12 : decode cX6_peopleContentWith 12 = .ok (.aload_n 0, 1) := by decide +kernel
theorem dX6_peopleContentWith_13 : decode cX6_peopleContentWith 13 = .ok (.iload_n 3, 1) := by decide +kernel
theorem dX6_peopleContentWith_14 : decode cX6_peopleContentWith 14 = .ok (.iload_n 1, 1) := by decide +kernel
theorem dX6_peopleContentWith_15 : decode cX6_peopleContentWith 15 = .ok (.invokevirtual 86, 3) := by decide +kernel
theorem dX6_peopleContentWith_18 : decode cX6_peopleContentWith 18 = .ok (.ifCond .eq 9, 3) := by decide +kernel
theorem dX6_peopleContentWith_21 : decode cX6_peopleContentWith 21 = .ok (.iload_n 2, 1) := by decide +kernel
theorem dX6_peopleContentWith_22 : decode cX6_peopleContentWith 22 = .ok (.iconst 1, 1) := by decide +kernel
theorem dX6_peopleContentWith_23 : decode cX6_peopleContentWith 23 = .ok (.iload_n 3, 1) := by decide +kernel
theorem dX6_peopleContentWith_24 : decode cX6_peopleContentWith 24 = .ok (.ishl, 1) := by decide +kernel
theorem dX6_peopleContentWith_25 : decode cX6_peopleContentWith 25 = .ok (.ior, 1) := by decide +kernel
theorem dX6_peopleContentWith_26 : decode cX6_peopleContentWith 26 = .ok (.istore_n 2, 1) := by decide +kernel
theorem dX6_peopleContentWith_27 : decode cX6_peopleContentWith 27 = .ok (.iinc 3 1, 3) := by decide +kernel
theorem dX6_peopleContentWith_30 : decode cX6_peopleContentWith 30 = .ok (.goto (-26), 3) := by decide +kernel
theorem dX6_peopleContentWith_33 : decode cX6_peopleContentWith 33 = .ok (.iload_n 2, 1) := by decide +kernel
theorem dX6_peopleContentWith_34 : decode cX6_peopleContentWith 34 = .ok (.ireturn, 1) := by decide +kernel
theorem dX6_howManyWant_0 : decode cX6_howManyWant 0 = .ok (.iconst 0, 1) := by decide +kernel
theorem dX6_howManyWant_1 : decode cX6_howManyWant 1 = .ok (.istore_n 3, 1) := by decide +kernel
theorem dX6_howManyWant_2 : decode cX6_howManyWant 2 = .ok (.iconst 0, 1) := by decide +kernel
theorem dX6_howManyWant_3 : decode cX6_howManyWant 3 = .ok (.istore 4, 2) := by decide +kernel
theorem dX6_howManyWant_5 : decode cX6_howManyWant 5 = .ok (.iload 4, 2) := by decide +kernel
theorem dX6_howManyWant_7 : decode cX6_howManyWant 7 = .ok (.aload_n 0, 1) := by decide +kernel
theorem dX6_howManyWant_8 : decode cX6_howManyWant 8 = .ok (.getfield 25, 3) := by decide +kernel
theorem dX6_howManyWant_11 : decode cX6_howManyWant 11 = .ok (.if_icmp .ge 27, 3) := by decide +kernel
theorem dX6_howManyWant_14 : decode cX6_howManyWant 14 = .ok (.aload_n 0, 1) := by decide +kernel
theorem dX6_howManyWant_15 : decode cX6_howManyWant 15 = .ok (.getfield 44, 3) := by decide +kernel
theorem dX6_howManyWant_18 : decode cX6_howManyWant 18 = .ok (.iload 4, 2) := by decide +kernel
theorem dX6_howManyWant_20 : decode cX6_howManyWant 20 = .ok (.iload_n 1, 1) := by decide +kernel
theorem dX6_howManyWant_21 : decode cX6_howManyWant 21 = .ok (.invokestatic 53, 3) := by decide +kernel
theorem dX6_howManyWant_24 : decode cX6_howManyWant 24 = .ok (.iaload, 1) := by decide +kernel
theorem dX6_howManyWant_25 : decode cX6_howManyWant 25 = .ok (.iload_n 2, 1) := by decide +kernel
theorem dX6_howManyWant_26 : decode cX6_howManyWant 26 = .ok (.if_icmp .ne 6, 3) := by decide +kernel
theorem dX6_howManyWant_29 : decode cX6_howManyWant 29 = .ok (.iinc 3 1, 3) := by decide +kernel
theorem dX6_howManyWant_32 : decode cX6_howManyWant 32 = .ok (.iinc 4 1, 3) := by decide +kernel
theorem dX6_howManyWant_35 : decode cX6_howManyWant 35 = .ok (.goto (-30), 3) := by decide +kernel
theorem dX6_howManyWant_38 : decode cX6_howManyWant 38 = .ok (.iload_n 3, 1) := by decide +kernel
theorem dX6_howManyWant_39 : decode cX6_howManyWant 39 = .ok (.ireturn, 1) := by decide +kernel
theorem dX6_sameWishes_0 : decode cX6_sameWishes 0 = .ok (.iconst 0, 1) := by decide +kernel
theorem dX6_sameWishes_1 : decode cX6_sameWishes 1 = .ok (.istore_n 3, 1) := by decide +kernel
theorem dX6_sameWishes_2 : decode cX6_sameWishes 2 = .ok (.iconst 0, 1) := by decide +kernel
theorem dX6_sameWishes_3 : decode cX6_sameWishes 3 = .ok (.istore 4, 2) := by decide +kernel
theorem dX6_sameWishes_5 : decode cX6_sameWishes 5 = .ok (.iload 4, 2) := by decide +kernel
theorem dX6_sameWishes_7 : decode cX6_sameWishes 7 = .ok (.aload_n 0, 1) := by decide +kernel
theorem dX6_sameWishes_8 : decode cX6_sameWishes 8 = .ok (.getfield 22, 3) := by decide +kernel
theorem dX6_sameWishes_11 : decode cX6_sameWishes 11 = .ok (.if_icmp .ge 37, 3) := by decide +kernel
theorem dX6_sameWishes_14 : decode cX6_sameWishes 14 = .ok (.aload_n 0, 1) := by decide +kernel
theorem dX6_sameWishes_15 : decode cX6_sameWishes 15 = .ok (.getfield 44, 3) := by decide +kernel
theorem dX6_sameWishes_18 : decode cX6_sameWishes 18 = .ok (.iload_n 1, 1) := by decide +kernel
theorem dX6_sameWishes_19 : decode cX6_sameWishes 19 = .ok (.iload 4, 2) := by decide +kernel
theorem dX6_sameWishes_21 : decode cX6_sameWishes 21 = .ok (.invokestatic 53, 3) := by decide +kernel
theorem dX6_sameWishes_24 : decode cX6_sameWishes 24 = .ok (.iaload, 1) := by decide +kernel
theorem dX6_sameWishes_25 : decode cX6_sameWishes 25 = .ok (.aload_n 0, 1) := by decide +kernel
theorem dX6_sameWishes_26 : decode cX6_sameWishes 26 = .ok (.getfield 44, 3) := by decide +kernel
theorem dX6_sameWishes_29 : decode cX6_sameWishes 29 = .ok (.iload_n 2, 1) := by decide +kernel
theorem dX6_sameWishes_30 : decode cX6_sameWishes 30 = .ok (.iload 4, 2) := by decide +kernel
theorem dX6_sameWishes_32 : decode cX6_sameWishes 32 = .ok (.invokestatic 53, 3) := by decide +kernel
theorem dX6_sameWishes_35 : decode cX6_sameWishes 35 = .ok (.iaload, 1) := by decide +kernel
theorem dX6_sameWishes_36 : decode cX6_sameWishes 36 = .ok (.if_icmp .ne 6, 3) := by decide +kernel
theorem dX6_sameWishes_39 : decode cX6_sameWishes 39 = .ok (.iinc 3 1, 3) := by decide +kernel
theorem dX6_sameWishes_42 : decode cX6_sameWishes 42 = .ok (.iinc 4 1, 3) := by decide +kernel
theorem dX6_sameWishes_45 : decode cX6_sameWishes 45 = .ok (.goto (-40), 3) := by decide +kernel
theorem dX6_sameWishes_48 : decode cX6_sameWishes 48 = .ok (.iload_n 3, 1) := by decide +kernel
theorem dX6_sameWishes_49 : decode cX6_sameWishes 49 = .ok (.ireturn, 1) := by decide +kernel
theorem dX6_slipsIn_0 : decode cX6_slipsIn 0 = .ok (.iconst 0, 1) := by decide +kernel
theorem dX6_slipsIn_1 : decode cX6_slipsIn 1 = .ok (.istore_n 2, 1) := by decide +kernel
theorem dX6_slipsIn_2 : decode cX6_slipsIn 2 = .ok (.iconst 0, 1) := by decide +kernel
theorem dX6_slipsIn_3 : decode cX6_slipsIn 3 = .ok (.istore_n 3, 1) := by decide +kernel
theorem dX6_slipsIn_4 : decode cX6_slipsIn 4 = .ok (.iload_n 3, 1) := by decide +kernel
theorem dX6_slipsIn_5 : decode cX6_slipsIn 5 = .ok (.aload_n 0, 1) := by decide +kernel
theorem dX6_slipsIn_6 : decode cX6_slipsIn 6 = .ok (.getfield 22, 3) := by decide +kernel
theorem dX6_slipsIn_9 : decode cX6_slipsIn 9 = .ok (.if_icmp .ge 25, 3) := by decide +kernel
theorem dX6_slipsIn_12 : decode cX6_slipsIn 12 = .ok (.aload_n 0, 1) := by decide +kernel
theorem dX6_slipsIn_13 : decode cX6_slipsIn 13 = .ok (.getfield 28, 3) := by decide +kernel
theorem dX6_slipsIn_16 : decode cX6_slipsIn 16 = .ok (.iload_n 3, 1) := by decide +kernel
theorem dX6_slipsIn_17 : decode cX6_slipsIn 17 = .ok (.iaload, 1) := by decide +kernel
theorem dX6_slipsIn_18 : decode cX6_slipsIn 18 = .ok (.iload_n 1, 1) := by decide +kernel
theorem dX6_slipsIn_19 : decode cX6_slipsIn 19 = .ok (.if_icmp .ne 9, 3) := by decide +kernel
theorem dX6_slipsIn_22 : decode cX6_slipsIn 22 = .ok (.iload_n 2, 1) := by decide +kernel
theorem dX6_slipsIn_23 : decode cX6_slipsIn 23 = .ok (.iconst 1, 1) := by decide +kernel
theorem dX6_slipsIn_24 : decode cX6_slipsIn 24 = .ok (.iload_n 3, 1) := by decide +kernel
theorem dX6_slipsIn_25 : decode cX6_slipsIn 25 = .ok (.ishl, 1) := by decide +kernel
theorem dX6_slipsIn_26 : decode cX6_slipsIn 26 = .ok (.ior, 1) := by decide +kernel
theorem dX6_slipsIn_27 : decode cX6_slipsIn 27 = .ok (.istore_n 2, 1) := by decide +kernel
theorem dX6_slipsIn_28 : decode cX6_slipsIn 28 = .ok (.iinc 3 1, 3) := by decide +kernel
theorem dX6_slipsIn_31 : decode cX6_slipsIn 31 = .ok (.goto (-27), 3) := by decide +kernel
theorem dX6_slipsIn_34 : decode cX6_slipsIn 34 = .ok (.iload_n 2, 1) := by decide +kernel
theorem dX6_slipsIn_35 : decode cX6_slipsIn 35 = .ok (.ireturn, 1) := by decide +kernel
theorem dX6_groupsWithSlips_0 : decode cX6_groupsWithSlips 0 = .ok (.iconst 0, 1) := by decide +kernel
theorem dX6_groupsWithSlips_1 : decode cX6_groupsWithSlips 1 = .ok (.istore_n 1, 1) := by decide +kernel
theorem dX6_groupsWithSlips_2 : decode cX6_groupsWithSlips 2 = .ok (.iconst 0, 1) := by decide +kernel
theorem dX6_groupsWithSlips_3 : decode cX6_groupsWithSlips 3 = .ok (.istore_n 2, 1) := by decide +kernel
theorem dX6_groupsWithSlips_4 : decode cX6_groupsWithSlips 4 = .ok (.iload_n 2, 1) := by decide +kernel
theorem dX6_groupsWithSlips_5 : decode cX6_groupsWithSlips 5 = .ok (.aload_n 0, 1) := by decide +kernel
theorem dX6_groupsWithSlips_6 : decode cX6_groupsWithSlips 6 = .ok (.getfield 22, 3) := by decide +kernel
theorem dX6_groupsWithSlips_9 : decode cX6_groupsWithSlips 9 = .ok (.if_icmp .ge 30, 3) := by decide +kernel
theorem dX6_groupsWithSlips_12 : decode cX6_groupsWithSlips 12 = .ok (.aload_n 0, 1) := by decide +kernel
theorem dX6_groupsWithSlips_13 : decode cX6_groupsWithSlips 13 = .ok (.getfield 28, 3) := by decide +kernel
theorem dX6_groupsWithSlips_16 : decode cX6_groupsWithSlips 16 = .ok (.iload_n 2, 1) := by decide +kernel
theorem dX6_groupsWithSlips_17 : decode cX6_groupsWithSlips 17 = .ok (.iaload, 1) := by decide +kernel
theorem dX6_groupsWithSlips_18 : decode cX6_groupsWithSlips 18 = .ok (.iconst (-1), 1) := by decide +kernel
theorem dX6_groupsWithSlips_19 : decode cX6_groupsWithSlips 19 = .ok (.if_icmp .eq 14, 3) := by decide +kernel
theorem dX6_groupsWithSlips_22 : decode cX6_groupsWithSlips 22 = .ok (.iload_n 1, 1) := by decide +kernel
theorem dX6_groupsWithSlips_23 : decode cX6_groupsWithSlips 23 = .ok (.iconst 1, 1) := by decide +kernel
theorem dX6_groupsWithSlips_24 : decode cX6_groupsWithSlips 24 = .ok (.aload_n 0, 1) := by decide +kernel
theorem dX6_groupsWithSlips_25 : decode cX6_groupsWithSlips 25 = .ok (.getfield 28, 3) := by decide +kernel
theorem dX6_groupsWithSlips_28 : decode cX6_groupsWithSlips 28 = .ok (.iload_n 2, 1) := by decide +kernel
theorem dX6_groupsWithSlips_29 : decode cX6_groupsWithSlips 29 = .ok (.iaload, 1) := by decide +kernel
theorem dX6_groupsWithSlips_30 : decode cX6_groupsWithSlips 30 = .ok (.ishl, 1) := by decide +kernel
theorem dX6_groupsWithSlips_31 : decode cX6_groupsWithSlips 31 = .ok (.ior, 1) := by decide +kernel
theorem dX6_groupsWithSlips_32 : decode cX6_groupsWithSlips 32 = .ok (.istore_n 1, 1) := by decide +kernel
theorem dX6_groupsWithSlips_33 : decode cX6_groupsWithSlips 33 = .ok (.iinc 2 1, 3) := by decide +kernel
theorem dX6_groupsWithSlips_36 : decode cX6_groupsWithSlips 36 = .ok (.goto (-32), 3) := by decide +kernel
theorem dX6_groupsWithSlips_39 : decode cX6_groupsWithSlips 39 = .ok (.iload_n 1, 1) := by decide +kernel
theorem dX6_groupsWithSlips_40 : decode cX6_groupsWithSlips 40 = .ok (.ireturn, 1) := by decide +kernel
theorem dX6_fixedSlips_0 : decode cX6_fixedSlips 0 = .ok (.iconst 0, 1) := by decide +kernel
theorem dX6_fixedSlips_1 : decode cX6_fixedSlips 1 = .ok (.istore_n 1, 1) := by decide +kernel
theorem dX6_fixedSlips_2 : decode cX6_fixedSlips 2 = .ok (.iconst 0, 1) := by decide +kernel
theorem dX6_fixedSlips_3 : decode cX6_fixedSlips 3 = .ok (.istore_n 2, 1) := by decide +kernel
theorem dX6_fixedSlips_4 : decode cX6_fixedSlips 4 = .ok (.iload_n 2, 1) := by decide +kernel
theorem dX6_fixedSlips_5 : decode cX6_fixedSlips 5 = .ok (.aload_n 0, 1) := by decide +kernel
theorem dX6_fixedSlips_6 : decode cX6_fixedSlips 6 = .ok (.getfield 22, 3) := by decide +kernel
theorem dX6_fixedSlips_9 : decode cX6_fixedSlips 9 = .ok (.if_icmp .ge 25, 3) := by decide +kernel
theorem dX6_fixedSlips_12 : decode cX6_fixedSlips 12 = .ok (.aload_n 0, 1) := by decide +kernel
theorem dX6_fixedSlips_13 : decode cX6_fixedSlips 13 = .ok (.getfield 35, 3) := by decide +kernel
theorem dX6_fixedSlips_16 : decode cX6_fixedSlips 16 = .ok (.iload_n 2, 1) := by decide +kernel
theorem dX6_fixedSlips_17 : decode cX6_fixedSlips 17 = .ok (.iaload, 1) := by decide +kernel
theorem dX6_fixedSlips_18 : decode cX6_fixedSlips 18 = .ok (.iconst 1, 1) := by decide +kernel
theorem dX6_fixedSlips_19 : decode cX6_fixedSlips 19 = .ok (.if_icmp .ne 9, 3) := by decide +kernel
theorem dX6_fixedSlips_22 : decode cX6_fixedSlips 22 = .ok (.iload_n 1, 1) := by decide +kernel
theorem dX6_fixedSlips_23 : decode cX6_fixedSlips 23 = .ok (.iconst 1, 1) := by decide +kernel
theorem dX6_fixedSlips_24 : decode cX6_fixedSlips 24 = .ok (.iload_n 2, 1) := by decide +kernel
theorem dX6_fixedSlips_25 : decode cX6_fixedSlips 25 = .ok (.ishl, 1) := by decide +kernel
theorem dX6_fixedSlips_26 : decode cX6_fixedSlips 26 = .ok (.ior, 1) := by decide +kernel
theorem dX6_fixedSlips_27 : decode cX6_fixedSlips 27 = .ok (.istore_n 1, 1) := by decide +kernel
theorem dX6_fixedSlips_28 : decode cX6_fixedSlips 28 = .ok (.iinc 2 1, 3) := by decide +kernel
theorem dX6_fixedSlips_31 : decode cX6_fixedSlips 31 = .ok (.goto (-27), 3) := by decide +kernel
theorem dX6_fixedSlips_34 : decode cX6_fixedSlips 34 = .ok (.iload_n 1, 1) := by decide +kernel
theorem dX6_fixedSlips_35 : decode cX6_fixedSlips 35 = .ok (.ireturn, 1) := by decide +kernel
theorem dX6_movedTogether_0 : decode cX6_movedTogether 0 = .ok (.iconst 0, 1) := by decide +kernel
theorem dX6_movedTogether_1 : decode cX6_movedTogether 1 = .ok (.istore_n 1, 1) := by decide +kernel
theorem dX6_movedTogether_2 : decode cX6_movedTogether 2 = .ok (.iconst 0, 1) := by decide +kernel
theorem dX6_movedTogether_3 : decode cX6_movedTogether 3 = .ok (.istore_n 2, 1) := by decide +kernel
theorem dX6_movedTogether_4 : decode cX6_movedTogether 4 = .ok (.iload_n 2, 1) := by decide +kernel
theorem dX6_movedTogether_5 : decode cX6_movedTogether 5 = .ok (.aload_n 0, 1) := by decide +kernel
theorem dX6_movedTogether_6 : decode cX6_movedTogether 6 = .ok (.getfield 22, 3) := by decide +kernel
theorem dX6_movedTogether_9 : decode cX6_movedTogether 9 = .ok (.if_icmp .ge 18, 3) := by decide +kernel
theorem dX6_movedTogether_12 : decode cX6_movedTogether 12 = .ok (.iload_n 1, 1) := by decide +kernel
theorem dX6_movedTogether_13 : decode cX6_movedTogether 13 = .ok (.aload_n 0, 1) := by decide +kernel
theorem dX6_movedTogether_14 : decode cX6_movedTogether 14 = .ok (.getfield 32, 3) := by decide +kernel
theorem dX6_movedTogether_17 : decode cX6_movedTogether 17 = .ok (.iload_n 2, 1) := by decide +kernel
theorem dX6_movedTogether_18 : decode cX6_movedTogether 18 = .ok (.iaload, 1) := by decide +kernel
theorem dX6_movedTogether_19 : decode cX6_movedTogether 19 = .ok (.iadd, 1) := by decide +kernel
theorem dX6_movedTogether_20 : decode cX6_movedTogether 20 = .ok (.istore_n 1, 1) := by decide +kernel
theorem dX6_movedTogether_21 : decode cX6_movedTogether 21 = .ok (.iinc 2 1, 3) := by decide +kernel
theorem dX6_movedTogether_24 : decode cX6_movedTogether 24 = .ok (.goto (-20), 3) := by decide +kernel
theorem dX6_movedTogether_27 : decode cX6_movedTogether 27 = .ok (.iload_n 1, 1) := by decide +kernel
theorem dX6_movedTogether_28 : decode cX6_movedTogether 28 = .ok (.ireturn, 1) := by decide +kernel
theorem dX7_init_0 : decode cX7_init 0 = .ok (.aload_n 0, 1) := by decide +kernel
theorem dX7_init_1 : decode cX7_init 1 = .ok (.invokespecial 3, 3) := by decide +kernel
theorem dX7_init_4 : decode cX7_init 4 = .ok (.aload_n 0, 1) := by decide +kernel
theorem dX7_init_5 : decode cX7_init 5 = .ok (.iconst 0, 1) := by decide +kernel
theorem dX7_init_6 : decode cX7_init 6 = .ok (.putfield 9, 3) := by decide +kernel
theorem dX7_init_9 : decode cX7_init 9 = .ok (.aload_n 0, 1) := by decide +kernel
theorem dX7_init_10 : decode cX7_init 10 = .ok (.iconst 0, 1) := by decide +kernel
theorem dX7_init_11 : decode cX7_init 11 = .ok (.putfield 15, 3) := by decide +kernel
theorem dX7_init_14 : decode cX7_init 14 = .ok (.aload_n 0, 1) := by decide +kernel
theorem dX7_init_15 : decode cX7_init 15 = .ok (.bipush 40, 2) := by decide +kernel
theorem dX7_init_17 : decode cX7_init 17 = .ok (.newarray .long, 2) := by decide +kernel
theorem dX7_init_19 : decode cX7_init 19 = .ok (.putfield 18, 3) := by decide +kernel
theorem dX7_init_22 : decode cX7_init 22 = .ok (.return_, 1) := by decide +kernel
theorem dX7_isMissing_0 : decode cX7_isMissing 0 = .ok (.aload_n 0, 1) := by decide +kernel
theorem dX7_isMissing_1 : decode cX7_isMissing 1 = .ok (.getfield 9, 3) := by decide +kernel
theorem dX7_isMissing_4 : decode cX7_isMissing 4 = .ok (.ifCond .ne 7, 3) := by decide +kernel
theorem dX7_isMissing_7 : decode cX7_isMissing 7 = .ok (.iconst 1, 1) := by decide +kernel
theorem dX7_isMissing_8 : decode cX7_isMissing 8 = .ok (.goto 4, 3) := by decide +kernel
theorem dX7_isMissing_11 : decode cX7_isMissing 11 = .ok (.iconst 0, 1) := by decide +kernel
theorem dX7_isMissing_12 : decode cX7_isMissing 12 = .ok (.ireturn, 1) := by decide +kernel
theorem dX7_become_0 : decode cX7_become 0 = .ok (.aload_n 0, 1) := by decide +kernel
theorem dX7_become_1 : decode cX7_become 1 = .ok (.iload_n 1, 1) := by decide +kernel
theorem dX7_become_2 : decode cX7_become 2 = .ok (.putfield 9, 3) := by decide +kernel
theorem dX7_become_5 : decode cX7_become 5 = .ok (.aload_n 0, 1) := by decide +kernel
theorem dX7_become_6 : decode cX7_become 6 = .ok (.iload_n 1, 1) := by decide +kernel
theorem dX7_become_7 : decode cX7_become 7 = .ok (.ifCond .ne 7, 3) := by decide +kernel
theorem dX7_become_10 : decode cX7_become 10 = .ok (.iconst 0, 1) := by decide +kernel
theorem dX7_become_11 : decode cX7_become 11 = .ok (.goto 4, 3) := by decide +kernel
theorem dX7_become_14 : decode cX7_become 14 = .ok (.iload_n 2, 1) := by decide +kernel
theorem dX7_become_15 : decode cX7_become 15 = .ok (.putfield 15, 3) := by decide +kernel
theorem dX7_become_18 : decode cX7_become 18 = .ok (.iconst 0, 1) := by decide +kernel
theorem dX7_become_19 : decode cX7_become 19 = .ok (.istore_n 3, 1) := by decide +kernel
theorem dX7_become_20 : decode cX7_become 20 = .ok (.iload_n 3, 1) := by decide +kernel
theorem dX7_become_21 : decode cX7_become 21 = .ok (.bipush 40, 2) := by decide +kernel
theorem dX7_become_23 : decode cX7_become 23 = .ok (.if_icmp .ge 16, 3) := by decide +kernel
theorem dX7_become_26 : decode cX7_become 26 = .ok (.aload_n 0, 1) := by decide +kernel
theorem dX7_become_27 : decode cX7_become 27 = .ok (.getfield 18, 3) := by decide +kernel
theorem dX7_become_30 : decode cX7_become 30 = .ok (.iload_n 3, 1) := by decide +kernel
theorem dX7_become_31 : decode cX7_become 31 = .ok (.lconst 0, 1) := by decide +kernel
theorem dX7_become_32 : decode cX7_become 32 = .ok (.lastore, 1) := by decide +kernel
theorem dX7_become_33 : decode cX7_become 33 = .ok (.iinc 3 1, 3) := by decide +kernel
theorem dX7_become_36 : decode cX7_become 36 = .ok (.goto (-16), 3) := by decide +kernel
theorem dX7_become_39 : decode cX7_become 39 = .ok (.return_, 1) := by decide +kernel
theorem dX7_put_0 : decode cX7_put 0 = .ok (.aload_n 0, 1) := by decide +kernel
theorem dX7_put_1 : decode cX7_put 1 = .ok (.getfield 9, 3) := by decide +kernel
theorem dX7_put_4 : decode cX7_put 4 = .ok (.bipush 8, 2) := by decide +kernel
theorem dX7_put_6 : decode cX7_put 6 = .ok (.if_icmp .ne 16, 3) := by decide +kernel
theorem dX7_put_9 : decode cX7_put 9 = .ok (.aload_n 0, 1) := by decide +kernel
theorem dX7_put_10 : decode cX7_put 10 = .ok (.getfield 18, 3) := by decide +kernel
theorem dX7_put_13 : decode cX7_put 13 = .ok (.iload_n 1, 1) := by decide +kernel
theorem dX7_put_14 : decode cX7_put 14 = .ok (.lload_n 2, 1) := by decide +kernel
theorem dX7_put_15 : decode cX7_put 15 = .ok (.l2i, 1) := by decide +kernel
theorem dX7_put_16 : decode cX7_put 16 = .ok (.i2b, 1) := by decide +kernel
theorem dX7_put_17 : decode cX7_put 17 = .ok (.i2l, 1) := by decide +kernel
theorem dX7_put_18 : decode cX7_put 18 = .ok (.lastore, 1) := by decide +kernel
theorem dX7_put_19 : decode cX7_put 19 = .ok (.goto 32, 3) := by decide +kernel
theorem dX7_put_22 : decode cX7_put 22 = .ok (.aload_n 0, 1) := by decide +kernel
theorem dX7_put_23 : decode cX7_put 23 = .ok (.getfield 9, 3) := by decide +kernel
theorem dX7_put_26 : decode cX7_put 26 = .ok (.bipush 16, 2) := by decide +kernel
theorem dX7_put_28 : decode cX7_put 28 = .ok (.if_icmp .ne 16, 3) := by decide +kernel
theorem dX7_put_31 : decode cX7_put 31 = .ok (.aload_n 0, 1) := by decide +kernel
theorem dX7_put_32 : decode cX7_put 32 = .ok (.getfield 18, 3) := by decide +kernel
theorem dX7_put_35 : decode cX7_put 35 = .ok (.iload_n 1, 1) := by decide +kernel
theorem dX7_put_36 : decode cX7_put 36 = .ok (.lload_n 2, 1) := by decide +kernel
theorem dX7_put_37 : decode cX7_put 37 = .ok (.l2i, 1) := by decide +kernel
theorem dX7_put_38 : decode cX7_put 38 = .ok (.i2s, 1) := by decide +kernel
theorem dX7_put_39 : decode cX7_put 39 = .ok (.i2l, 1) := by decide +kernel
theorem dX7_put_40 : decode cX7_put 40 = .ok (.lastore, 1) := by decide +kernel
theorem dX7_put_41 : decode cX7_put 41 = .ok (.goto 10, 3) := by decide +kernel
theorem dX7_put_44 : decode cX7_put 44 = .ok (.aload_n 0, 1) := by decide +kernel
theorem dX7_put_45 : decode cX7_put 45 = .ok (.getfield 18, 3) := by decide +kernel
theorem dX7_put_48 : decode cX7_put 48 = .ok (.iload_n 1, 1) := by decide +kernel
theorem dX7_put_49 : decode cX7_put 49 = .ok (.lload_n 2, 1) := by decide +kernel
theorem dX7_put_50 : decode cX7_put 50 = .ok (.lastore, 1) := by decide +kernel
theorem dX7_put_51 : decode cX7_put 51 = .ok (.return_, 1) := by decide +kernel
theorem dX7_hasFrom_0 : decode cX7_hasFrom 0 = .ok (.iload_n 1, 1) := by decide +kernel
theorem dX7_hasFrom_1 : decode cX7_hasFrom 1 = .ok (.ifCond .lt 21, 3) := by decide +kernel
theorem dX7_hasFrom_4 : decode cX7_hasFrom 4 = .ok (.iload_n 2, 1) := by decide +kernel
theorem dX7_hasFrom_5 : decode cX7_hasFrom 5 = .ok (.ifCond .lt 17, 3) := by decide +kernel
theorem dX7_hasFrom_8 : decode cX7_hasFrom 8 = .ok (.iload_n 2, 1) := by decide +kernel
theorem dX7_hasFrom_9 : decode cX7_hasFrom 9 = .ok (.aload_n 0, 1) := by decide +kernel
theorem dX7_hasFrom_10 : decode cX7_hasFrom 10 = .ok (.getfield 15, 3) := by decide +kernel
theorem dX7_hasFrom_13 : decode cX7_hasFrom 13 = .ok (.iload_n 1, 1) := by decide +kernel
theorem dX7_hasFrom_14 : decode cX7_hasFrom 14 = .ok (.isub, 1) := by decide +kernel
theorem dX7_hasFrom_15 : decode cX7_hasFrom 15 = .ok (.if_icmp .gt 7, 3) := by decide +kernel
theorem dX7_hasFrom_18 : decode cX7_hasFrom 18 = .ok (.iconst 1, 1) := by decide +kernel
theorem dX7_hasFrom_19 : decode cX7_hasFrom 19 = .ok (.goto 4, 3) := by decide +kernel
theorem dX7_hasFrom_22 : decode cX7_hasFrom 22 = .ok (.iconst 0, 1) := by decide +kernel
theorem dX7_hasFrom_23 : decode cX7_hasFrom 23 = .ok (.ireturn, 1) := by decide +kernel
theorem dX8_init_0 : decode cX8_init 0 = .ok (.aload_n 0, 1) := by decide +kernel
theorem dX8_init_1 : decode cX8_init 1 = .ok (.invokespecial 1, 3) := by decide +kernel
theorem dX8_init_4 : decode cX8_init 4 = .ok (.return_, 1) := by decide +kernel
theorem dX8_isKind_0 : decode cX8_isKind 0 = .ok (.iload_n 1, 1) := by decide +kernel
theorem dX8_isKind_1 : decode cX8_isKind 1 = .ok (.iconst 2, 1) := by decide +kernel
theorem dX8_isKind_2 : decode cX8_isKind 2 = .ok (.if_icmp .eq 11, 3) := by decide +kernel
theorem dX8_isKind_5 : decode cX8_isKind 5 = .ok (.aload_n 0, 1) := by decide +kernel
theorem dX8_isKind_6 : decode cX8_isKind 6 = .ok (.iload_n 1, 1) := by decide +kernel
theorem dX8_isKind_7 : decode cX8_isKind 7 = .ok (.invokespecial 7, 3) := by decide +kernel
theorem dX8_isKind_10 : decode cX8_isKind 10 = .ok (.ifCond .eq 7, 3) := by decide +kernel
theorem dX8_isKind_13 : decode cX8_isKind 13 = .ok (.iconst 1, 1) := by decide +kernel
theorem dX8_isKind_14 : decode cX8_isKind 14 = .ok (.goto 4, 3) := by decide +kernel
theorem dX8_isKind_17 : decode cX8_isKind 17 = .ok (.iconst 0, 1) := by decide +kernel
theorem dX8_isKind_18 : decode cX8_isKind 18 = .ok (.ireturn, 1) := by decide +kernel
theorem dX8_mayTouch_0 : decode cX8_mayTouch 0 = .ok (.aload_n 0, 1) := by decide +kernel
theorem dX8_mayTouch_1 : decode cX8_mayTouch 1 = .ok (.iload_n 1, 1) := by decide +kernel
theorem dX8_mayTouch_2 : decode cX8_mayTouch 2 = .ok (.iload_n 2, 1) := by decide +kernel
theorem dX8_mayTouch_3 : decode cX8_mayTouch 3 = .ok (.iload_n 3, 1) := by decide +kernel
theorem dX8_mayTouch_4 : decode cX8_mayTouch 4 = .ok (.invokespecial 11, 3) := by decide +kernel
theorem dX8_mayTouch_7 : decode cX8_mayTouch 7 = .ok (.ifCond .eq 11, 3) := by decide +kernel
theorem dX8_mayTouch_10 : decode cX8_mayTouch 10 = .ok (.iload_n 1, 1) := by decide +kernel
theorem dX8_mayTouch_11 : decode cX8_mayTouch 11 = .ok (.ifCond .ne 7, 3) := by decide +kernel
theorem dX8_mayTouch_14 : decode cX8_mayTouch 14 = .ok (.iconst 1, 1) := by decide +kernel
theorem dX8_mayTouch_15 : decode cX8_mayTouch 15 = .ok (.goto 4, 3) := by decide +kernel
theorem dX8_mayTouch_18 : decode cX8_mayTouch 18 = .ok (.iconst 0, 1) := by decide +kernel
theorem dX8_mayTouch_19 : decode cX8_mayTouch 19 = .ok (.ireturn, 1) := by decide +kernel
theorem dX9_init_0 : decode cX9_init 0 = .ok (.aload_n 0, 1) := by decide +kernel
theorem dX9_init_1 : decode cX9_init 1 = .ok (.invokespecial 3, 3) := by decide +kernel
theorem dX9_init_4 : decode cX9_init 4 = .ok (.aload_n 0, 1) := by decide +kernel
theorem dX9_init_5 : decode cX9_init 5 = .ok (.bipush 120, 2) := by decide +kernel
theorem dX9_init_7 : decode cX9_init 7 = .ok (.newarray .int, 2) := by decide +kernel
theorem dX9_init_9 : decode cX9_init 9 = .ok (.putfield 9, 3) := by decide +kernel
theorem dX9_init_12 : decode cX9_init 12 = .ok (.aload_n 0, 1) := by decide +kernel
theorem dX9_init_13 : decode cX9_init 13 = .ok (.iconst 0, 1) := by decide +kernel
theorem dX9_init_14 : decode cX9_init 14 = .ok (.putfield 15, 3) := by decide +kernel
theorem dX9_init_17 : decode cX9_init 17 = .ok (.aload_n 0, 1) := by decide +kernel
theorem dX9_init_18 : decode cX9_init 18 = .ok (.iconst 0, 1) := by decide +kernel
theorem dX9_init_19 : decode cX9_init 19 = .ok (.putfield 19, 3) := by decide +kernel
theorem dX9_init_22 : decode cX9_init 22 = .ok (.aload_n 0, 1) := by decide +kernel
theorem dX9_init_23 : decode cX9_init 23 = .ok (.iconst 0, 1) := by decide +kernel
theorem dX9_init_24 : decode cX9_init 24 = .ok (.putfield 22, 3) := by decide +kernel
theorem dX9_init_27 : decode cX9_init 27 = .ok (.aload_n 0, 1) := by decide +kernel
theorem dX9_init_28 : decode cX9_init 28 = .ok (.iconst 0, 1) := by decide +kernel
theorem dX9_init_29 : decode cX9_init 29 = .ok (.putfield 25, 3) := by decide +kernel
theorem dX9_init_32 : decode cX9_init 32 = .ok (.aload_n 0, 1) := by decide +kernel
theorem dX9_init_33 : decode cX9_init 33 = .ok (.iconst 0, 1) := by decide +kernel
theorem dX9_init_34 : decode cX9_init 34 = .ok (.putfield 28, 3) := by decide +kernel
theorem dX9_init_37 : decode cX9_init 37 = .ok (.return_, 1) := by decide +kernel
theorem dX9_append_0 : decode cX9_append 0 = .ok (.aload_n 0, 1) := by decide +kernel
theorem dX9_append_1 : decode cX9_append 1 = .ok (.getfield 9, 3) := by decide +kernel
theorem dX9_append_4 : decode cX9_append 4 = .ok (.aload_n 0, 1) := by decide +kernel
theorem dX9_append_5 : decode cX9_append 5 = .ok (.getfield 15, 3) := by decide +kernel
theorem dX9_append_8 : decode cX9_append 8 = .ok (.iload_n 1, 1) := by decide +kernel
theorem dX9_append_9 : decode cX9_append 9 = .ok (.iastore, 1) := by decide +kernel
theorem dX9_append_10 : decode cX9_append 10 = .ok (.aload_n 0, 1) := by decide +kernel
theorem dX9_append_11 : decode cX9_append 11 = .ok (.dup, 1) := by decide +kernel
theorem dX9_append_12 : decode cX9_append 12 = .ok (.getfield 15, 3) := by decide +kernel
theorem dX9_append_15 : decode cX9_append 15 = .ok (.iconst 1, 1) := by decide +kernel
theorem dX9_append_16 : decode cX9_append 16 = .ok (.iadd, 1) := by decide +kernel
theorem dX9_append_17 : decode cX9_append 17 = .ok (.putfield 15, 3) := by decide +kernel
theorem dX9_append_20 : decode cX9_append 20 = .ok (.return_, 1) := by decide +kernel
theorem dX9_firstToken_0 : decode cX9_firstToken 0 = .ok (.aload_n 0, 1) := by decide +kernel
theorem dX9_firstToken_1 : decode cX9_firstToken 1 = .ok (.iconst 0, 1) := by decide +kernel
theorem dX9_firstToken_2 : decode cX9_firstToken 2 = .ok (.putfield 25, 3) := by decide +kernel
theorem dX9_firstToken_5 : decode cX9_firstToken 5 = .ok (.aload_n 0, 1) := by decide +kernel
theorem dX9_firstToken_6 : decode cX9_firstToken 6 = .ok (.invokevirtual 31, 3) := by decide +kernel
theorem dX9_firstToken_9 : decode cX9_firstToken 9 = .ok (.return_, 1) := by decide +kernel
theorem dX9_nextToken_0 : decode cX9_nextToken 0 = .ok (.aload_n 0, 1) := by decide +kernel
theorem dX9_nextToken_1 : decode cX9_nextToken 1 = .ok (.aload_n 0, 1) := by decide +kernel
theorem dX9_nextToken_2 : decode cX9_nextToken 2 = .ok (.getfield 25, 3) := by decide +kernel
theorem dX9_nextToken_5 : decode cX9_nextToken 5 = .ok (.putfield 22, 3) := by decide +kernel
theorem dX9_nextToken_8 : decode cX9_nextToken 8 = .ok (.aload_n 0, 1) := by decide +kernel
theorem dX9_nextToken_9 : decode cX9_nextToken 9 = .ok (.getfield 22, 3) := by decide +kernel
theorem dX9_nextToken_12 : decode cX9_nextToken 12 = .ok (.aload_n 0, 1) := by decide +kernel
theorem dX9_nextToken_13 : decode cX9_nextToken 13 = .ok (.getfield 15, 3) := by decide +kernel
theorem dX9_nextToken_16 : decode cX9_nextToken 16 = .ok (.if_icmp .ge 30, 3) := by decide +kernel
theorem dX9_nextToken_19 : decode cX9_nextToken 19 = .ok (.aload_n 0, 1) := by decide +kernel
theorem dX9_nextToken_20 : decode cX9_nextToken 20 = .ok (.getfield 9, 3) := by decide +kernel
theorem dX9_nextToken_23 : decode cX9_nextToken 23 = .ok (.aload_n 0, 1) := by decide +kernel
theorem dX9_nextToken_24 : decode cX9_nextToken 24 = .ok (.getfield 22, 3) := by decide +kernel
theorem dX9_nextToken_27 : decode cX9_nextToken 27 = .ok (.iaload, 1) := by decide +kernel
theorem dX9_nextToken_28 : decode cX9_nextToken 28 = .ok (.bipush 32, 2) := by decide +kernel
theorem dX9_nextToken_30 : decode cX9_nextToken 30 = .ok (.if_icmp .ne 16, 3) := by decide +kernel
theorem dX9_nextToken_33 : decode cX9_nextToken 33 = .ok (.aload_n 0, 1) := by decide +kernel
theorem dX9_nextToken_34 : decode cX9_nextToken 34 = .ok (.dup, 1) := by decide +kernel
theorem dX9_nextToken_35 : decode cX9_nextToken 35 = .ok (.getfield 22, 3) := by decide +kernel
theorem dX9_nextToken_38 : decode cX9_nextToken 38 = .ok (.iconst 1, 1) := by decide +kernel
theorem dX9_nextToken_39 : decode cX9_nextToken 39 = .ok (.iadd, 1) := by decide +kernel
theorem dX9_nextToken_40 : decode cX9_nextToken 40 = .ok (.putfield 22, 3) := by decide +kernel
theorem dX9_nextToken_43 : decode cX9_nextToken 43 = .ok (.goto (-35), 3) := by decide +kernel
theorem dX9_nextToken_46 : decode cX9_nextToken 46 = .ok (.aload_n 0, 1) := by decide +kernel
theorem dX9_nextToken_47 : decode cX9_nextToken 47 = .ok (.aload_n 0, 1) := by decide +kernel
theorem dX9_nextToken_48 : decode cX9_nextToken 48 = .ok (.getfield 22, 3) := by decide +kernel
theorem dX9_nextToken_51 : decode cX9_nextToken 51 = .ok (.putfield 25, 3) := by decide +kernel
theorem dX9_nextToken_54 : decode cX9_nextToken 54 = .ok (.aload_n 0, 1) := by decide +kernel
theorem dX9_nextToken_55 : decode cX9_nextToken 55 = .ok (.getfield 22, 3) := by decide +kernel
theorem dX9_nextToken_58 : decode cX9_nextToken 58 = .ok (.aload_n 0, 1) := by decide +kernel
theorem dX9_nextToken_59 : decode cX9_nextToken 59 = .ok (.getfield 15, 3) := by decide +kernel
theorem dX9_nextToken_62 : decode cX9_nextToken 62 = .ok (.if_icmp .lt 11, 3) := by decide +kernel
theorem dX9_nextToken_65 : decode cX9_nextToken 65 = .ok (.aload_n 0, 1) := by decide +kernel
theorem dX9_nextToken_66 : decode cX9_nextToken 66 = .ok (.iconst 0, 1) := by decide +kernel
theorem dX9_nextToken_67 : decode cX9_nextToken 67 = .ok (.putfield 19, 3) := by decide +kernel
theorem dX9_nextToken_70 : decode cX9_nextToken 70 = .ok (.goto 80, 3) := by decide +kernel
theorem dX9_nextToken_73 : decode cX9_nextToken 73 = .ok (.aload_n 0, 1) := by decide +kernel
theorem dX9_nextToken_74 : decode cX9_nextToken 74 = .ok (.getfield 9, 3) := by decide +kernel
theorem dX9_nextToken_77 : decode cX9_nextToken 77 = .ok (.aload_n 0, 1) := by decide +kernel
theorem dX9_nextToken_78 : decode cX9_nextToken 78 = .ok (.getfield 22, 3) := by decide +kernel
theorem dX9_nextToken_81 : decode cX9_nextToken 81 = .ok (.iaload, 1) := by decide +kernel
theorem dX9_nextToken_82 : decode cX9_nextToken 82 = .ok (.invokestatic 34, 3) := by decide +kernel
theorem dX9_nextToken_85 : decode cX9_nextToken 85 = .ok (.ifCond .eq 10, 3) := by decide +kernel
theorem dX9_nextToken_88 : decode cX9_nextToken 88 = .ok (.aload_n 0, 1) := by decide +kernel
theorem dX9_nextToken_89 : decode cX9_nextToken 89 = .ok (.invokevirtual 38, 3) := by decide +kernel
theorem dX9_nextToken_92 : decode cX9_nextToken 92 = .ok (.goto 58, 3) := by decide +kernel
theorem dX9_nextToken_95 : decode cX9_nextToken 95 = .ok (.aload_n 0, 1) := by decide +kernel
theorem dX9_nextToken_96 : decode cX9_nextToken 96 = .ok (.getfield 9, 3) := by decide +kernel
theorem dX9_nextToken_99 : decode cX9_nextToken 99 = .ok (.aload_n 0, 1) := by decide +kernel
theorem dX9_nextToken_100 : decode cX9_nextToken 100 = .ok (.getfield 22, 3) := by decide +kernel
theorem dX9_nextToken_103 : decode cX9_nextToken 103 = .ok (.iaload, 1) := by decide +kernel
theorem dX9_nextToken_104 : decode cX9_nextToken 104 = .ok (.invokestatic 41, 3) := by decide +kernel
theorem dX9_nextToken_107 : decode cX9_nextToken 107 = .ok (.ifCond .eq 10, 3) := by decide +kernel
theorem dX9_nextToken_110 : decode cX9_nextToken 110 = .ok (.aload_n 0, 1) := by decide +kernel
theorem dX9_nextToken_111 : decode cX9_nextToken 111 = .ok (.invokevirtual 44, 3) := by decide +kernel
theorem dX9_nextToken_114 : decode cX9_nextToken 114 = .ok (.goto 36, 3) := by decide +kernel
theorem dX9_nextToken_117 : decode cX9_nextToken 117 = .ok (.aload_n 0, 1) := by decide +kernel
theorem dX9_nextToken_118 : decode cX9_nextToken 118 = .ok (.aload_n 0, 1) := by decide +kernel
theorem dX9_nextToken_119 : decode cX9_nextToken 119 = .ok (.getfield 9, 3) := by decide +kernel
theorem dX9_nextToken_122 : decode cX9_nextToken 122 = .ok (.aload_n 0, 1) := by decide +kernel
theorem dX9_nextToken_123 : decode cX9_nextToken 123 = .ok (.getfield 22, 3) := by decide +kernel
theorem dX9_nextToken_126 : decode cX9_nextToken 126 = .ok (.iaload, 1) := by decide +kernel
theorem dX9_nextToken_127 : decode cX9_nextToken 127 = .ok (.bipush 59, 2) := by decide +kernel
theorem dX9_nextToken_129 : decode cX9_nextToken 129 = .ok (.if_icmp .ne 7, 3) := by decide +kernel
theorem dX9_nextToken_132 : decode cX9_nextToken 132 = .ok (.iconst 3, 1) := by decide +kernel
theorem dX9_nextToken_133 : decode cX9_nextToken 133 = .ok (.goto 4, 3) := by decide +kernel
theorem dX9_nextToken_136 : decode cX9_nextToken 136 = .ok (.iconst 4, 1) := by decide +kernel
theorem dX9_nextToken_137 : decode cX9_nextToken 137 = .ok (.putfield 19, 3) := by decide +kernel
theorem dX9_nextToken_140 : decode cX9_nextToken 140 = .ok (.aload_n 0, 1) := by decide +kernel
theorem dX9_nextToken_141 : decode cX9_nextToken 141 = .ok (.dup, 1) := by decide +kernel
theorem dX9_nextToken_142 : decode cX9_nextToken 142 = .ok (.getfield 25, 3) := by decide +kernel
theorem dX9_nextToken_145 : decode cX9_nextToken 145 = .ok (.iconst 1, 1) := by decide +kernel
theorem dX9_nextToken_146 : decode cX9_nextToken 146 = .ok (.iadd, 1) := by decide +kernel
theorem dX9_nextToken_147 : decode cX9_nextToken 147 = .ok (.putfield 25, 3) := by decide +kernel
theorem dX9_nextToken_150 : decode cX9_nextToken 150 = .ok (.return_, 1) := by decide +kernel
theorem dX9_takeWord_0 : decode cX9_takeWord 0 = .ok (.aload_n 0, 1) := by decide +kernel
theorem dX9_takeWord_1 : decode cX9_takeWord 1 = .ok (.iconst 1, 1) := by decide +kernel
theorem dX9_takeWord_2 : decode cX9_takeWord 2 = .ok (.putfield 19, 3) := by decide +kernel
theorem dX9_takeWord_5 : decode cX9_takeWord 5 = .ok (.aload_n 0, 1) := by decide +kernel
theorem dX9_takeWord_6 : decode cX9_takeWord 6 = .ok (.getfield 25, 3) := by decide +kernel
theorem dX9_takeWord_9 : decode cX9_takeWord 9 = .ok (.aload_n 0, 1) := by decide +kernel
theorem dX9_takeWord_10 : decode cX9_takeWord 10 = .ok (.getfield 15, 3) := by decide +kernel
theorem dX9_takeWord_13 : decode cX9_takeWord 13 = .ok (.if_icmp .ge 31, 3) := by decide +kernel
theorem dX9_takeWord_16 : decode cX9_takeWord 16 = .ok (.aload_n 0, 1) := by decide +kernel
theorem dX9_takeWord_17 : decode cX9_takeWord 17 = .ok (.getfield 9, 3) := by decide +kernel
theorem dX9_takeWord_20 : decode cX9_takeWord 20 = .ok (.aload_n 0, 1) := by decide +kernel
theorem dX9_takeWord_21 : decode cX9_takeWord 21 = .ok (.getfield 25, 3) := by decide +kernel
theorem dX9_takeWord_24 : decode cX9_takeWord 24 = .ok (.iaload, 1) := by decide +kernel
theorem dX9_takeWord_25 : decode cX9_takeWord 25 = .ok (.invokestatic 34, 3) := by decide +kernel
theorem dX9_takeWord_28 : decode cX9_takeWord 28 = .ok (.ifCond .eq 16, 3) := by decide +kernel
theorem dX9_takeWord_31 : decode cX9_takeWord 31 = .ok (.aload_n 0, 1) := by decide +kernel
theorem dX9_takeWord_32 : decode cX9_takeWord 32 = .ok (.dup, 1) := by decide +kernel
theorem dX9_takeWord_33 : decode cX9_takeWord 33 = .ok (.getfield 25, 3) := by decide +kernel
theorem dX9_takeWord_36 : decode cX9_takeWord 36 = .ok (.iconst 1, 1) := by decide +kernel
theorem dX9_takeWord_37 : decode cX9_takeWord 37 = .ok (.iadd, 1) := by decide +kernel
theorem dX9_takeWord_38 : decode cX9_takeWord 38 = .ok (.putfield 25, 3) := by decide +kernel
theorem dX9_takeWord_41 : decode cX9_takeWord 41 = .ok (.goto (-36), 3) := by decide +kernel
theorem dX9_takeWord_44 : decode cX9_takeWord 44 = .ok (.return_, 1) := by decide +kernel
theorem dX9_takeNumber_0 : decode cX9_takeNumber 0 = .ok (.aload_n 0, 1) := by decide +kernel
theorem dX9_takeNumber_1 : decode cX9_takeNumber 1 = .ok (.iconst 2, 1) := by decide +kernel
theorem dX9_takeNumber_2 : decode cX9_takeNumber 2 = .ok (.putfield 19, 3) := by decide +kernel
theorem dX9_takeNumber_5 : decode cX9_takeNumber 5 = .ok (.aload_n 0, 1) := by decide +kernel
theorem dX9_takeNumber_6 : decode cX9_takeNumber 6 = .ok (.iconst 0, 1) := by decide +kernel
theorem dX9_takeNumber_7 : decode cX9_takeNumber 7 = .ok (.putfield 28, 3) := by decide +kernel
theorem dX9_takeNumber_10 : decode cX9_takeNumber 10 = .ok (.aload_n 0, 1) := by decide +kernel
theorem dX9_takeNumber_11 : decode cX9_takeNumber 11 = .ok (.getfield 25, 3) := by decide +kernel
theorem dX9_takeNumber_14 : decode cX9_takeNumber 14 = .ok (.aload_n 0, 1) := by decide +kernel
theorem dX9_takeNumber_15 : decode cX9_takeNumber 15 = .ok (.getfield 15, 3) := by decide +kernel
theorem dX9_takeNumber_18 : decode cX9_takeNumber 18 = .ok (.if_icmp .ge 61, 3) := by decide +kernel
theorem dX9_takeNumber_21 : decode cX9_takeNumber 21 = .ok (.aload_n 0, 1) := by decide +kernel
theorem dX9_takeNumber_22 : decode cX9_takeNumber 22 = .ok (.getfield 9, 3) := by decide +kernel
theorem dX9_takeNumber_25 : decode cX9_takeNumber 25 = .ok (.aload_n 0, 1) := by decide +kernel
theorem dX9_takeNumber_26 : decode cX9_takeNumber 26 = .ok (.getfield 25, 3) := by decide +kernel
theorem dX9_takeNumber_29 : decode cX9_takeNumber 29 = .ok (.iaload, 1) := by decide +kernel
theorem dX9_takeNumber_30 : decode cX9_takeNumber 30 = .ok (.invokestatic 41, 3) := by decide +kernel
theorem dX9_takeNumber_33 : decode cX9_takeNumber 33 = .ok (.ifCond .eq 46, 3) := by decide +kernel
theorem dX9_takeNumber_36 : decode cX9_takeNumber 36 = .ok (.aload_n 0, 1) := by decide +kernel
theorem dX9_takeNumber_37 : decode cX9_takeNumber 37 = .ok (.bipush 10, 2) := by decide +kernel
theorem dX9_takeNumber_39 : decode cX9_takeNumber 39 = .ok (.aload_n 0, 1) := by decide +kernel
theorem dX9_takeNumber_40 : decode cX9_takeNumber 40 = .ok (.getfield 28, 3) := by decide +kernel
theorem dX9_takeNumber_43 : decode cX9_takeNumber 43 = .ok (.imul, 1) := by decide +kernel
theorem dX9_takeNumber_44 : decode cX9_takeNumber 44 = .ok (.aload_n 0, 1) := by decide +kernel
theorem dX9_takeNumber_45 : decode cX9_takeNumber 45 = .ok (.getfield 9, 3) := by decide +kernel
theorem dX9_takeNumber_48 : decode cX9_takeNumber 48 = .ok (.aload_n 0, 1) := by decide +kernel
theorem dX9_takeNumber_49 : decode cX9_takeNumber 49 = .ok (.getfield 25, 3) := by decide +kernel
theorem dX9_takeNumber_52 : decode cX9_takeNumber 52 = .ok (.iaload, 1) := by decide +kernel
theorem dX9_takeNumber_53 : decode cX9_takeNumber 53 = .ok (.iadd, 1) := by decide +kernel
theorem dX9_takeNumber_54 : decode cX9_takeNumber 54 = .ok (.bipush 48, 2) := by decide +kernel
theorem dX9_takeNumber_56 : decode cX9_takeNumber 56 = .ok (.isub, 1) := by decide +kernel
theorem dX9_takeNumber_57 : decode cX9_takeNumber 57 = .ok (.sipush 1000, 3) := by decide +kernel
theorem dX9_takeNumber_60 : decode cX9_takeNumber 60 = .ok (.invokestatic 47, 3) := by decide +kernel
theorem dX9_takeNumber_63 : decode cX9_takeNumber 63 = .ok (.putfield 28, 3) := by decide +kernel
theorem dX9_takeNumber_66 : decode cX9_takeNumber 66 = .ok (.aload_n 0, 1) := by decide +kernel
theorem dX9_takeNumber_67 : decode cX9_takeNumber 67 = .ok (.dup, 1) := by decide +kernel
theorem dX9_takeNumber_68 : decode cX9_takeNumber 68 = .ok (.getfield 25, 3) := by decide +kernel
theorem dX9_takeNumber_71 : decode cX9_takeNumber 71 = .ok (.iconst 1, 1) := by decide +kernel
theorem dX9_takeNumber_72 : decode cX9_takeNumber 72 = .ok (.iadd, 1) := by decide +kernel
theorem dX9_takeNumber_73 : decode cX9_takeNumber 73 = .ok (.putfield 25, 3) := by decide +kernel
theorem dX9_takeNumber_76 : decode cX9_takeNumber 76 = .ok (.goto (-66), 3) := by decide +kernel
theorem dX9_takeNumber_79 : decode cX9_takeNumber 79 = .ok (.return_, 1) := by decide +kernel
theorem dX9_isLetter_0 : decode cX9_isLetter 0 = .ok (.iload_n 0, 1) := by decide +kernel
theorem dX9_isLetter_1 : decode cX9_isLetter 1 = .ok (.bipush 97, 2) := by decide +kernel
theorem dX9_isLetter_3 : decode cX9_isLetter 3 = .ok (.bipush 122, 2) := by decide +kernel
theorem dX9_isLetter_5 : decode cX9_isLetter 5 = .ok (.invokestatic 53, 3) := by decide +kernel
theorem dX9_isLetter_8 : decode cX9_isLetter 8 = .ok (.ireturn, 1) := by decide +kernel
theorem dX9_isDigit_0 : decode cX9_isDigit 0 = .ok (.iload_n 0, 1) := by decide +kernel
theorem dX9_isDigit_1 : decode cX9_isDigit 1 = .ok (.bipush 48, 2) := by decide +kernel
theorem dX9_isDigit_3 : decode cX9_isDigit 3 = .ok (.bipush 57, 2) := by decide +kernel
theorem dX9_isDigit_5 : decode cX9_isDigit 5 = .ok (.invokestatic 53, 3) := by decide +kernel
theorem dX9_isDigit_8 : decode cX9_isDigit 8 = .ok (.ireturn, 1) := by decide +kernel
theorem dX9_isAtEnd_0 : decode cX9_isAtEnd 0 = .ok (.aload_n 0, 1) := by decide +kernel
theorem dX9_isAtEnd_1 : decode cX9_isAtEnd 1 = .ok (.getfield 19, 3) := by decide +kernel
theorem dX9_isAtEnd_4 : decode cX9_isAtEnd 4 = .ok (.ifCond .ne 7, 3) := by decide +kernel
theorem dX9_isAtEnd_7 : decode cX9_isAtEnd 7 = .ok (.iconst 1, 1) := by decide +kernel
theorem dX9_isAtEnd_8 : decode cX9_isAtEnd 8 = .ok (.goto 4, 3) := by decide +kernel
theorem dX9_isAtEnd_11 : decode cX9_isAtEnd 11 = .ok (.iconst 0, 1) := by decide +kernel
theorem dX9_isAtEnd_12 : decode cX9_isAtEnd 12 = .ok (.ireturn, 1) := by decide +kernel
theorem dX9_isSign_0 : decode cX9_isSign 0 = .ok (.aload_n 0, 1) := by decide +kernel
theorem dX9_isSign_1 : decode cX9_isSign 1 = .ok (.getfield 19, 3) := by decide +kernel
theorem dX9_isSign_4 : decode cX9_isSign 4 = .ok (.iconst 3, 1) := by decide +kernel
theorem dX9_isSign_5 : decode cX9_isSign 5 = .ok (.if_icmp .ne 7, 3) := by decide +kernel
theorem dX9_isSign_8 : decode cX9_isSign 8 = .ok (.iconst 1, 1) := by decide +kernel
theorem dX9_isSign_9 : decode cX9_isSign 9 = .ok (.goto 4, 3) := by decide +kernel
theorem dX9_isSign_12 : decode cX9_isSign 12 = .ok (.iconst 0, 1) := by decide +kernel
theorem dX9_isSign_13 : decode cX9_isSign 13 = .ok (.ireturn, 1) := by decide +kernel
theorem dX9_isNumberUpTo_0 : decode cX9_isNumberUpTo 0 = .ok (.aload_n 0, 1) := by decide +kernel
theorem dX9_isNumberUpTo_1 : decode cX9_isNumberUpTo 1 = .ok (.getfield 19, 3) := by decide +kernel
theorem dX9_isNumberUpTo_4 : decode cX9_isNumberUpTo 4 = .ok (.iconst 2, 1) := by decide +kernel
theorem dX9_isNumberUpTo_5 : decode cX9_isNumberUpTo 5 = .ok (.if_icmp .ne 15, 3) := by decide +kernel
theorem dX9_isNumberUpTo_8 : decode cX9_isNumberUpTo 8 = .ok (.aload_n 0, 1) := by decide +kernel
theorem dX9_isNumberUpTo_9 : decode cX9_isNumberUpTo 9 = .ok (.getfield 28, 3) := by decide +kernel
theorem dX9_isNumberUpTo_12 : decode cX9_isNumberUpTo 12 = .ok (.iload_n 1, 1) := by decide +kernel
theorem dX9_isNumberUpTo_13 : decode cX9_isNumberUpTo 13 = .ok (.if_icmp .gt 7, 3) := by decide +kernel
theorem dX9_isNumberUpTo_16 : decode cX9_isNumberUpTo 16 = .ok (.iconst 1, 1) := by decide +kernel
theorem dX9_isNumberUpTo_17 : decode cX9_isNumberUpTo 17 = .ok (.goto 4, 3) := by decide +kernel
theorem dX9_isNumberUpTo_20 : decode cX9_isNumberUpTo 20 = .ok (.iconst 0, 1) := by decide +kernel
theorem dX9_isNumberUpTo_21 : decode cX9_isNumberUpTo 21 = .ok (.ireturn, 1) := by decide +kernel
theorem dX9_isWord_0 : decode cX9_isWord 0 = .ok (.aload_n 0, 1) := by decide +kernel
theorem dX9_isWord_1 : decode cX9_isWord 1 = .ok (.getfield 19, 3) := by decide +kernel
theorem dX9_isWord_4 : decode cX9_isWord 4 = .ok (.iconst 1, 1) := by decide +kernel
theorem dX9_isWord_5 : decode cX9_isWord 5 = .ok (.if_icmp .ne 19, 3) := by decide +kernel
theorem dX9_isWord_8 : decode cX9_isWord 8 = .ok (.aload_n 0, 1) := by decide +kernel
theorem dX9_isWord_9 : decode cX9_isWord 9 = .ok (.getfield 25, 3) := by decide +kernel
theorem dX9_isWord_12 : decode cX9_isWord 12 = .ok (.aload_n 0, 1) := by decide +kernel
theorem dX9_isWord_13 : decode cX9_isWord 13 = .ok (.getfield 22, 3) := by decide +kernel
theorem dX9_isWord_16 : decode cX9_isWord 16 = .ok (.isub, 1) := by decide +kernel
theorem dX9_isWord_17 : decode cX9_isWord 17 = .ok (.aload_n 1, 1) := by decide +kernel
theorem dX9_isWord_18 : decode cX9_isWord 18 = .ok (.invokevirtual 57, 3) := by decide +kernel
theorem dX9_isWord_21 : decode cX9_isWord 21 = .ok (.if_icmp .eq 5, 3) := by decide +kernel
theorem dX9_isWord_24 : decode cX9_isWord 24 = .ok (.iconst 0, 1) := by decide +kernel
theorem dX9_isWord_25 : decode cX9_isWord 25 = .ok (.ireturn, 1) := by decide +kernel
theorem dX9_isWord_26 : decode cX9_isWord 26 = .ok (.iconst 0, 1) := by decide +kernel
theorem dX9_isWord_27 : decode cX9_isWord 27 = .ok (.istore_n 2, 1) := by decide +kernel
theorem dX9_isWord_28 : decode cX9_isWord 28 = .ok (.iload_n 2, 1) := by decide +kernel
theorem dX9_isWord_29 : decode cX9_isWord 29 = .ok (.aload_n 1, 1) := by decide +kernel
theorem dX9_isWord_30 : decode cX9_isWord 30 = .ok (.invokevirtual 57, 3) := by decide +kernel
theorem dX9_isWord_33 : decode cX9_isWord 33 = .ok (.if_icmp .ge 30, 3) := by decide +kernel
theorem dX9_isWord_36 : decode cX9_isWord 36 = .ok (.aload_n 0, 1) := by decide +kernel
theorem dX9_isWord_37 : decode cX9_isWord 37 = .ok (.getfield 9, 3) := by decide +kernel
theorem dX9_isWord_40 : decode cX9_isWord 40 = .ok (.aload_n 0, 1) := by decide +kernel
theorem dX9_isWord_41 : decode cX9_isWord 41 = .ok (.getfield 22, 3) := by decide +kernel
theorem dX9_isWord_44 : decode cX9_isWord 44 = .ok (.iload_n 2, 1) := by decide +kernel
theorem dX9_isWord_45 : decode cX9_isWord 45 = .ok (.iadd, 1) := by decide +kernel
theorem dX9_isWord_46 : decode cX9_isWord 46 = .ok (.iaload, 1) := by decide +kernel
theorem dX9_isWord_47 : decode cX9_isWord 47 = .ok (.aload_n 1, 1) := by decide +kernel
theorem dX9_isWord_48 : decode cX9_isWord 48 = .ok (.iload_n 2, 1) := by decide +kernel
theorem dX9_isWord_49 : decode cX9_isWord 49 = .ok (.invokevirtual 62, 3) := by decide +kernel
theorem dX9_isWord_52 : decode cX9_isWord 52 = .ok (.if_icmp .eq 5, 3) := by decide +kernel
theorem dX9_isWord_55 : decode cX9_isWord 55 = .ok (.iconst 0, 1) := by decide +kernel
theorem dX9_isWord_56 : decode cX9_isWord 56 = .ok (.ireturn, 1) := by decide +kernel
theorem dX9_isWord_57 : decode cX9_isWord 57 = .ok (.iinc 2 1, 3) := by decide +kernel
theorem dX9_isWord_60 : decode cX9_isWord 60 = .ok (.goto (-32), 3) := by decide +kernel
theorem dX9_isWord_63 : decode cX9_isWord 63 = .ok (.iconst 1, 1) := by decide +kernel
theorem dX9_isWord_64 : decode cX9_isWord 64 = .ok (.ireturn, 1) := by decide +kernel
theorem dX10_init_0 : decode cX10_init 0 = .ok (.aload_n 0, 1) := by decide +kernel
theorem dX10_init_1 : decode cX10_init 1 = .ok (.invokespecial 3, 3) := by decide +kernel
theorem dX10_init_4 : decode cX10_init 4 = .ok (.aload_n 0, 1) := by decide +kernel
theorem dX10_init_5 : decode cX10_init 5 = .ok (.aload_n 1, 1) := by decide +kernel
theorem dX10_init_6 : decode cX10_init 6 = .ok (.putfield 9, 3) := by decide +kernel
theorem dX10_init_9 : decode cX10_init 9 = .ok (.return_, 1) := by decide +kernel
theorem dX10_tellTo_0 : decode cX10_tellTo 0 = .ok (.aload_n 0, 1) := by decide +kernel
theorem dX10_tellTo_1 : decode cX10_tellTo 1 = .ok (.getfield 9, 3) := by decide +kernel
theorem dX10_tellTo_4 : decode cX10_tellTo 4 = .ok (.invokevirtual 15, 3) := by decide +kernel
theorem dX10_tellTo_7 : decode cX10_tellTo 7 = .ok (.iconst 1, 1) := by decide +kernel
theorem dX10_tellTo_8 : decode cX10_tellTo 8 = .ok (.istore_n 2, 1) := by decide +kernel
theorem dX10_tellTo_9 : decode cX10_tellTo 9 = .ok (.iload_n 2, 1) := by decide +kernel
theorem dX10_tellTo_10 : decode cX10_tellTo 10 = .ok (.bipush 120, 2) := by decide +kernel
theorem dX10_tellTo_12 : decode cX10_tellTo 12 = .ok (.if_icmp .gt 52, 3) := by decide +kernel
theorem dX10_tellTo_15 : decode cX10_tellTo 15 = .ok (.aload_n 0, 1) := by decide +kernel
theorem dX10_tellTo_16 : decode cX10_tellTo 16 = .ok (.aload_n 1, 1) := by decide +kernel
theorem dX10_tellTo_17 : decode cX10_tellTo 17 = .ok (.invokevirtual 20, 3) := by decide +kernel
theorem dX10_tellTo_20 : decode cX10_tellTo 20 = .ok (.ifCond .ne 6, 3) := by decide +kernel
theorem dX10_tellTo_23 : decode cX10_tellTo 23 = .ok (.goto 41, 3) := by decide +kernel
theorem dX10_tellTo_26 : decode cX10_tellTo 26 = .ok (.aload_n 0, 1) := by decide +kernel
theorem dX10_tellTo_27 : decode cX10_tellTo 27 = .ok (.getfield 9, 3) := by decide +kernel
theorem dX10_tellTo_30 : decode cX10_tellTo 30 = .ok (.invokevirtual 24, 3) := by decide +kernel
theorem dX10_tellTo_33 : decode cX10_tellTo 33 = .ok (.ifCond .eq 5, 3) := by decide +kernel
theorem dX10_tellTo_36 : decode cX10_tellTo 36 = .ok (.iload_n 2, 1) := by decide +kernel
theorem dX10_tellTo_37 : decode cX10_tellTo 37 = .ok (.ireturn, 1) := by decide +kernel
theorem dX10_tellTo_38 : decode cX10_tellTo 38 = .ok (.aload_n 0, 1) := by decide +kernel
theorem dX10_tellTo_39 : decode cX10_tellTo 39 = .ok (.getfield 9, 3) := by decide +kernel
theorem dX10_tellTo_42 : decode cX10_tellTo 42 = .ok (.invokevirtual 28, 3) := by decide +kernel
theorem dX10_tellTo_45 : decode cX10_tellTo 45 = .ok (.ifCond .ne 6, 3) := by decide +kernel
theorem dX10_tellTo_48 : decode cX10_tellTo 48 = .ok (.goto 16, 3) := by decide +kernel
theorem dX10_tellTo_51 : decode cX10_tellTo 51 = .ok (.aload_n 0, 1) := by decide +kernel
theorem dX10_tellTo_52 : decode cX10_tellTo 52 = .ok (.getfield 9, 3) := by decide +kernel
theorem dX10_tellTo_55 : decode cX10_tellTo 55 = .ok (.invokevirtual 31, 3) := by decide +kernel
theorem dX10_tellTo_58 : decode cX10_tellTo 58 = .ok (.iinc 2 1, 3) := by decide +kernel
theorem dX10_tellTo_61 : decode cX10_tellTo 61 = .ok (.goto (-52), 3) := by decide +kernel
theorem dX10_tellTo_64 : decode cX10_tellTo 64 = .ok (.iconst (-1), 1) := by decide +kernel
theorem dX10_tellTo_65 : decode cX10_tellTo 65 = .ok (.aload_n 0, 1) := by decide +kernel
theorem dX10_tellTo_66 : decode cX10_tellTo 66 = .ok (.getfield 9, 3) := by decide +kernel
theorem dX10_tellTo_69 : decode cX10_tellTo 69 = .ok (.getfield 34, 3) := by decide +kernel
theorem dX10_tellTo_72 : decode cX10_tellTo 72 = .ok (.isub, 1) := by decide +kernel
theorem dX10_tellTo_73 : decode cX10_tellTo 73 = .ok (.ireturn, 1) := by decide +kernel
theorem dX10_takeItem_0 : decode cX10_takeItem 0 = .ok (.aload_n 0, 1) := by decide +kernel
theorem dX10_takeItem_1 : decode cX10_takeItem 1 = .ok (.getfield 9, 3) := by decide +kernel
theorem dX10_takeItem_4 : decode cX10_takeItem 4 = .ok (.ldc 38, 2) := by decide +kernel
theorem dX10_takeItem_6 : decode cX10_takeItem 6 = .ok (.invokevirtual 40, 3) := by decide +kernel
theorem dX10_takeItem_9 : decode cX10_takeItem 9 = .ok (.ifCond .eq 9, 3) := by decide +kernel
theorem dX10_takeItem_12 : decode cX10_takeItem 12 = .ok (.aload_n 0, 1) := by decide +kernel
theorem dX10_takeItem_13 : decode cX10_takeItem 13 = .ok (.aload_n 1, 1) := by decide +kernel
theorem dX10_takeItem_14 : decode cX10_takeItem 14 = .ok (.invokevirtual 44, 3) := by decide +kernel
theorem dX10_takeItem_17 : decode cX10_takeItem 17 = .ok (.ireturn, 1) := by decide +kernel
theorem dX10_takeItem_18 : decode cX10_takeItem 18 = .ok (.aload_n 0, 1) := by decide +kernel
theorem dX10_takeItem_19 : decode cX10_takeItem 19 = .ok (.getfield 9, 3) := by decide +kernel
theorem dX10_takeItem_22 : decode cX10_takeItem 22 = .ok (.ldc 47, 2) := by decide +kernel
theorem dX10_takeItem_24 : decode cX10_takeItem 24 = .ok (.invokevirtual 40, 3) := by decide +kernel
theorem dX10_takeItem_27 : decode cX10_takeItem 27 = .ok (.ifCond .eq 9, 3) := by decide +kernel
theorem dX10_takeItem_30 : decode cX10_takeItem 30 = .ok (.aload_n 0, 1) := by decide +kernel
theorem dX10_takeItem_31 : decode cX10_takeItem 31 = .ok (.aload_n 1, 1) := by decide +kernel
theorem dX10_takeItem_32 : decode cX10_takeItem 32 = .ok (.invokevirtual 49, 3) := by decide +kernel
theorem dX10_takeItem_35 : decode cX10_takeItem 35 = .ok (.ireturn, 1) := by decide +kernel
theorem dX10_takeItem_36 : decode cX10_takeItem 36 = .ok (.aload_n 0, 1) := by decide +kernel
theorem dX10_takeItem_37 : decode cX10_takeItem 37 = .ok (.invokevirtual 52, 3) := by decide +kernel
theorem dX10_takeItem_40 : decode cX10_takeItem 40 = .ok (.istore_n 2, 1) := by decide +kernel
theorem dX10_takeItem_41 : decode cX10_takeItem 41 = .ok (.iload_n 2, 1) := by decide +kernel
theorem dX10_takeItem_42 : decode cX10_takeItem 42 = .ok (.iconst (-1), 1) := by decide +kernel
theorem dX10_takeItem_43 : decode cX10_takeItem 43 = .ok (.if_icmp .eq 16, 3) := by decide +kernel
theorem dX10_takeItem_46 : decode cX10_takeItem 46 = .ok (.aload_n 0, 1) := by decide +kernel
theorem dX10_takeItem_47 : decode cX10_takeItem 47 = .ok (.aload_n 1, 1) := by decide +kernel
theorem dX10_takeItem_48 : decode cX10_takeItem 48 = .ok (.iload_n 2, 1) := by decide +kernel
theorem dX10_takeItem_49 : decode cX10_takeItem 49 = .ok (.invokevirtual 56, 3) := by decide +kernel
theorem dX10_takeItem_52 : decode cX10_takeItem 52 = .ok (.ifCond .eq 7, 3) := by decide +kernel
theorem dX10_takeItem_55 : decode cX10_takeItem 55 = .ok (.iconst 1, 1) := by decide +kernel
theorem dX10_takeItem_56 : decode cX10_takeItem 56 = .ok (.goto 4, 3) := by decide +kernel
theorem dX10_takeItem_59 : decode cX10_takeItem 59 = .ok (.iconst 0, 1) := by decide +kernel
theorem dX10_takeItem_60 : decode cX10_takeItem 60 = .ok (.ireturn, 1) := by decide +kernel
theorem dX10_takeSlip_0 : decode cX10_takeSlip 0 = .ok (.aload_n 1, 1) := by decide +kernel
theorem dX10_takeSlip_1 : decode cX10_takeSlip 1 = .ok (.getfield 60, 3) := by decide +kernel
theorem dX10_takeSlip_4 : decode cX10_takeSlip 4 = .ok (.bipush 10, 2) := by decide +kernel
theorem dX10_takeSlip_6 : decode cX10_takeSlip 6 = .ok (.if_icmp .lt 5, 3) := by decide +kernel
theorem dX10_takeSlip_9 : decode cX10_takeSlip 9 = .ok (.iconst 0, 1) := by decide +kernel
theorem dX10_takeSlip_10 : decode cX10_takeSlip 10 = .ok (.ireturn, 1) := by decide +kernel
theorem dX10_takeSlip_11 : decode cX10_takeSlip 11 = .ok (.aload_n 0, 1) := by decide +kernel
theorem dX10_takeSlip_12 : decode cX10_takeSlip 12 = .ok (.getfield 9, 3) := by decide +kernel
theorem dX10_takeSlip_15 : decode cX10_takeSlip 15 = .ok (.invokevirtual 31, 3) := by decide +kernel
theorem dX10_takeSlip_18 : decode cX10_takeSlip 18 = .ok (.iconst (-1), 1) := by decide +kernel
theorem dX10_takeSlip_19 : decode cX10_takeSlip 19 = .ok (.istore_n 2, 1) := by decide +kernel
theorem dX10_takeSlip_20 : decode cX10_takeSlip 20 = .ok (.aload_n 0, 1) := by decide +kernel
theorem dX10_takeSlip_21 : decode cX10_takeSlip 21 = .ok (.getfield 9, 3) := by decide +kernel
theorem dX10_takeSlip_24 : decode cX10_takeSlip 24 = .ok (.iconst 5, 1) := by decide +kernel
theorem dX10_takeSlip_25 : decode cX10_takeSlip 25 = .ok (.invokevirtual 65, 3) := by decide +kernel
theorem dX10_takeSlip_28 : decode cX10_takeSlip 28 = .ok (.ifCond .eq 14, 3) := by decide +kernel
theorem dX10_takeSlip_31 : decode cX10_takeSlip 31 = .ok (.aload_n 0, 1) := by decide +kernel
theorem dX10_takeSlip_32 : decode cX10_takeSlip 32 = .ok (.getfield 9, 3) := by decide +kernel
theorem dX10_takeSlip_35 : decode cX10_takeSlip 35 = .ok (.getfield 69, 3) := by decide +kernel
theorem dX10_takeSlip_38 : decode cX10_takeSlip 38 = .ok (.istore_n 2, 1) := by decide +kernel
theorem dX10_takeSlip_39 : decode cX10_takeSlip 39 = .ok (.goto 17, 3) := by decide +kernel
theorem dX10_takeSlip_42 : decode cX10_takeSlip 42 = .ok (.aload_n 0, 1) := by decide +kernel
theorem dX10_takeSlip_43 : decode cX10_takeSlip 43 = .ok (.getfield 9, 3) := by decide +kernel
theorem dX10_takeSlip_46 : decode cX10_takeSlip 46 = .ok (.ldc 72, 2) := by decide +kernel
theorem dX10_takeSlip_48 : decode cX10_takeSlip 48 = .ok (.invokevirtual 40, 3) := by decide +kernel
theorem dX10_takeSlip_51 : decode cX10_takeSlip 51 = .ok (.ifCond .ne 5, 3) := by decide +kernel
theorem dX10_takeSlip_54 : decode cX10_takeSlip 54 = .ok (.iconst 0, 1) := by decide +kernel
theorem dX10_takeSlip_55 : decode cX10_takeSlip 55 = .ok (.ireturn, 1) := by decide +kernel
theorem dX10_takeSlip_56 : decode cX10_takeSlip 56 = .ok (.aload_n 0, 1) := by decide +kernel
theorem dX10_takeSlip_57 : decode cX10_takeSlip 57 = .ok (.getfield 9, 3) := by decide +kernel
theorem dX10_takeSlip_60 : decode cX10_takeSlip 60 = .ok (.invokevirtual 31, 3) := by decide +kernel
theorem dX10_takeSlip_63 : decode cX10_takeSlip 63 = .ok (.iconst 0, 1) := by decide +kernel
theorem dX10_takeSlip_64 : decode cX10_takeSlip 64 = .ok (.istore_n 3, 1) := by decide +kernel
theorem dX10_takeSlip_65 : decode cX10_takeSlip 65 = .ok (.aload_n 0, 1) := by decide +kernel
theorem dX10_takeSlip_66 : decode cX10_takeSlip 66 = .ok (.getfield 9, 3) := by decide +kernel
theorem dX10_takeSlip_69 : decode cX10_takeSlip 69 = .ok (.ldc 74, 2) := by decide +kernel
theorem dX10_takeSlip_71 : decode cX10_takeSlip 71 = .ok (.invokevirtual 40, 3) := by decide +kernel
theorem dX10_takeSlip_74 : decode cX10_takeSlip 74 = .ok (.ifCond .eq 12, 3) := by decide +kernel
theorem dX10_takeSlip_77 : decode cX10_takeSlip 77 = .ok (.iconst 1, 1) := by decide +kernel
theorem dX10_takeSlip_78 : decode cX10_takeSlip 78 = .ok (.istore_n 3, 1) := by decide +kernel
theorem dX10_takeSlip_79 : decode cX10_takeSlip 79 = .ok (.aload_n 0, 1) := by decide +kernel
theorem dX10_takeSlip_80 : decode cX10_takeSlip 80 = .ok (.getfield 9, 3) := by decide +kernel
theorem dX10_takeSlip_83 : decode cX10_takeSlip 83 = .ok (.invokevirtual 31, 3) := by decide +kernel
theorem dX10_takeSlip_86 : decode cX10_takeSlip 86 = .ok (.aload_n 1, 1) := by decide +kernel
theorem dX10_takeSlip_87 : decode cX10_takeSlip 87 = .ok (.iload_n 2, 1) := by decide +kernel
theorem dX10_takeSlip_88 : decode cX10_takeSlip 88 = .ok (.iload_n 3, 1) := by decide +kernel
theorem dX10_takeSlip_89 : decode cX10_takeSlip 89 = .ok (.invokevirtual 76, 3) := by decide +kernel
theorem dX10_takeSlip_92 : decode cX10_takeSlip 92 = .ok (.pop, 1) := by decide +kernel
theorem dX10_takeSlip_93 : decode cX10_takeSlip 93 = .ok (.iconst 1, 1) := by decide +kernel
theorem dX10_takeSlip_94 : decode cX10_takeSlip 94 = .ok (.ireturn, 1) := by decide +kernel
theorem dX10_takeMoves_0 : decode cX10_takeMoves 0 = .ok (.aload_n 0, 1) := by decide +kernel
theorem dX10_takeMoves_1 : decode cX10_takeMoves 1 = .ok (.getfield 9, 3) := by decide +kernel
theorem dX10_takeMoves_4 : decode cX10_takeMoves 4 = .ok (.invokevirtual 31, 3) := by decide +kernel
theorem dX10_takeMoves_7 : decode cX10_takeMoves 7 = .ok (.aload_n 0, 1) := by decide +kernel
theorem dX10_takeMoves_8 : decode cX10_takeMoves 8 = .ok (.getfield 9, 3) := by decide +kernel
theorem dX10_takeMoves_11 : decode cX10_takeMoves 11 = .ok (.bipush 99, 2) := by decide +kernel
theorem dX10_takeMoves_13 : decode cX10_takeMoves 13 = .ok (.invokevirtual 65, 3) := by decide +kernel
theorem dX10_takeMoves_16 : decode cX10_takeMoves 16 = .ok (.ifCond .ne 5, 3) := by decide +kernel
theorem dX10_takeMoves_19 : decode cX10_takeMoves 19 = .ok (.iconst 0, 1) := by decide +kernel
theorem dX10_takeMoves_20 : decode cX10_takeMoves 20 = .ok (.ireturn, 1) := by decide +kernel
theorem dX10_takeMoves_21 : decode cX10_takeMoves 21 = .ok (.aload_n 1, 1) := by decide +kernel
theorem dX10_takeMoves_22 : decode cX10_takeMoves 22 = .ok (.aload_n 0, 1) := by decide +kernel
theorem dX10_takeMoves_23 : decode cX10_takeMoves 23 = .ok (.getfield 9, 3) := by decide +kernel
theorem dX10_takeMoves_26 : decode cX10_takeMoves 26 = .ok (.getfield 69, 3) := by decide +kernel
theorem dX10_takeMoves_29 : decode cX10_takeMoves 29 = .ok (.putfield 80, 3) := by decide +kernel
theorem dX10_takeMoves_32 : decode cX10_takeMoves 32 = .ok (.aload_n 0, 1) := by decide +kernel
theorem dX10_takeMoves_33 : decode cX10_takeMoves 33 = .ok (.getfield 9, 3) := by decide +kernel
theorem dX10_takeMoves_36 : decode cX10_takeMoves 36 = .ok (.invokevirtual 31, 3) := by decide +kernel
theorem dX10_takeMoves_39 : decode cX10_takeMoves 39 = .ok (.iconst 1, 1) := by decide +kernel
theorem dX10_takeMoves_40 : decode cX10_takeMoves 40 = .ok (.ireturn, 1) := by decide +kernel
theorem dX10_takePerson_0 : decode cX10_takePerson 0 = .ok (.aload_n 1, 1) := by decide +kernel
theorem dX10_takePerson_1 : decode cX10_takePerson 1 = .ok (.getfield 82, 3) := by decide +kernel
theorem dX10_takePerson_4 : decode cX10_takePerson 4 = .ok (.bipush 6, 2) := by decide +kernel
theorem dX10_takePerson_6 : decode cX10_takePerson 6 = .ok (.if_icmp .lt 5, 3) := by decide +kernel
theorem dX10_takePerson_9 : decode cX10_takePerson 9 = .ok (.iconst 0, 1) := by decide +kernel
theorem dX10_takePerson_10 : decode cX10_takePerson 10 = .ok (.ireturn, 1) := by decide +kernel
theorem dX10_takePerson_11 : decode cX10_takePerson 11 = .ok (.aload_n 1, 1) := by decide +kernel
theorem dX10_takePerson_12 : decode cX10_takePerson 12 = .ok (.iload_n 2, 1) := by decide +kernel
theorem dX10_takePerson_13 : decode cX10_takePerson 13 = .ok (.invokevirtual 85, 3) := by decide +kernel
theorem dX10_takePerson_16 : decode cX10_takePerson 16 = .ok (.istore_n 3, 1) := by decide +kernel
theorem dX10_takePerson_17 : decode cX10_takePerson 17 = .ok (.aload_n 0, 1) := by decide +kernel
theorem dX10_takePerson_18 : decode cX10_takePerson 18 = .ok (.getfield 9, 3) := by decide +kernel
theorem dX10_takePerson_21 : decode cX10_takePerson 21 = .ok (.invokevirtual 31, 3) := by decide +kernel
theorem dX10_takePerson_24 : decode cX10_takePerson 24 = .ok (.aload_n 0, 1) := by decide +kernel
theorem dX10_takePerson_25 : decode cX10_takePerson 25 = .ok (.getfield 9, 3) := by decide +kernel
theorem dX10_takePerson_28 : decode cX10_takePerson 28 = .ok (.ldc 89, 2) := by decide +kernel
theorem dX10_takePerson_30 : decode cX10_takePerson 30 = .ok (.invokevirtual 40, 3) := by decide +kernel
theorem dX10_takePerson_33 : decode cX10_takePerson 33 = .ok (.ifCond .ne 5, 3) := by decide +kernel
theorem dX10_takePerson_36 : decode cX10_takePerson 36 = .ok (.iconst 1, 1) := by decide +kernel
theorem dX10_takePerson_37 : decode cX10_takePerson 37 = .ok (.ireturn, 1) := by decide +kernel
theorem dX10_takePerson_38 : decode cX10_takePerson 38 = .ok (.aload_n 0, 1) := by decide +kernel
theorem dX10_takePerson_39 : decode cX10_takePerson 39 = .ok (.getfield 9, 3) := by decide +kernel
theorem dX10_takePerson_42 : decode cX10_takePerson 42 = .ok (.invokevirtual 31, 3) := by decide +kernel
theorem dX10_takePerson_45 : decode cX10_takePerson 45 = .ok (.iconst 0, 1) := by decide +kernel
theorem dX10_takePerson_46 : decode cX10_takePerson 46 = .ok (.istore 4, 2) := by decide +kernel
theorem dX10_takePerson_48 : decode cX10_takePerson 48 = .ok (.iload 4, 2) := by decide +kernel
theorem dX10_takePerson_50 : decode cX10_takePerson 50 = .ok (.iconst 5, 1) := by decide +kernel
theorem dX10_takePerson_51 : decode cX10_takePerson 51 = .ok (.if_icmp .ge 45, 3) := by decide +kernel
theorem dX10_takePerson_54 : decode cX10_takePerson 54 = .ok (.aload_n 0, 1) := by decide +kernel
theorem dX10_takePerson_55 : decode cX10_takePerson 55 = .ok (.getfield 9, 3) := by decide +kernel
theorem dX10_takePerson_58 : decode cX10_takePerson 58 = .ok (.iconst 5, 1) := by decide +kernel
theorem dX10_takePerson_59 : decode cX10_takePerson 59 = .ok (.invokevirtual 65, 3) := by decide +kernel
theorem dX10_takePerson_62 : decode cX10_takePerson 62 = .ok (.ifCond .eq 34, 3) := by decide +kernel
theorem dX10_takePerson_65 : decode cX10_takePerson 65 = .ok (.aload_n 1, 1) := by decide +kernel
theorem dX10_takePerson_66 : decode cX10_takePerson 66 = .ok (.getfield 91, 3) := by decide +kernel
theorem dX10_takePerson_69 : decode cX10_takePerson 69 = .ok (.iload_n 3, 1) := by decide +kernel
theorem dX10_takePerson_70 : decode cX10_takePerson 70 = .ok (.iload 4, 2) := by decide +kernel
theorem dX10_takePerson_72 : decode cX10_takePerson 72 = .ok (.invokestatic 95, 3) := by decide +kernel
theorem dX10_takePerson_75 : decode cX10_takePerson 75 = .ok (.aload_n 0, 1) := by decide +kernel
theorem dX10_takePerson_76 : decode cX10_takePerson 76 = .ok (.getfield 9, 3) := by decide +kernel
theorem dX10_takePerson_79 : decode cX10_takePerson 79 = .ok (.getfield 69, 3) := by decide +kernel
theorem dX10_takePerson_82 : decode cX10_takePerson 82 = .ok (.iastore, 1) := by decide +kernel
theorem dX10_takePerson_83 : decode cX10_takePerson 83 = .ok (.iinc 4 1, 3) := by decide +kernel
theorem dX10_takePerson_86 : decode cX10_takePerson 86 = .ok (.aload_n 0, 1) := by decide +kernel
theorem dX10_takePerson_87 : decode cX10_takePerson 87 = .ok (.getfield 9, 3) := by decide +kernel
theorem dX10_takePerson_90 : decode cX10_takePerson 90 = .ok (.invokevirtual 31, 3) := by decide +kernel
theorem dX10_takePerson_93 : decode cX10_takePerson 93 = .ok (.goto (-45), 3) := by decide +kernel
theorem dX10_takePerson_96 : decode cX10_takePerson 96 = .ok (.iload 4, 2) := by decide +kernel
theorem dX10_takePerson_98 : decode cX10_takePerson 98 = .ok (.ifCond .le 7, 3) := by decide +kernel
theorem dX10_takePerson_101 : decode cX10_takePerson 101 = .ok (.iconst 1, 1) := by decide +kernel
theorem dX10_takePerson_102 : decode cX10_takePerson 102 = .ok (.goto 4, 3) := by decide +kernel
theorem dX10_takePerson_105 : decode cX10_takePerson 105 = .ok (.iconst 0, 1) := by decide +kernel
theorem dX10_takePerson_106 : decode cX10_takePerson 106 = .ok (.ireturn, 1) := by decide +kernel
theorem dX10_kindNamed_0 : decode cX10_kindNamed 0 = .ok (.aload_n 0, 1) := by decide +kernel
theorem dX10_kindNamed_1 : decode cX10_kindNamed 1 = .ok (.getfield 9, 3) := by decide +kernel
theorem dX10_kindNamed_4 : decode cX10_kindNamed 4 = .ok (.ldc 98, 2) := by decide +kernel
theorem dX10_kindNamed_6 : decode cX10_kindNamed 6 = .ok (.invokevirtual 40, 3) := by decide +kernel
theorem dX10_kindNamed_9 : decode cX10_kindNamed 9 = .ok (.ifCond .eq 5, 3) := by decide +kernel
theorem dX10_kindNamed_12 : decode cX10_kindNamed 12 = .ok (.iconst 0, 1) := by decide +kernel
theorem dX10_kindNamed_13 : decode cX10_kindNamed 13 = .ok (.ireturn, 1) := by decide +kernel
theorem dX10_kindNamed_14 : decode cX10_kindNamed 14 = .ok (.aload_n 0, 1) := by decide +kernel
theorem dX10_kindNamed_15 : decode cX10_kindNamed 15 = .ok (.getfield 9, 3) := by decide +kernel
theorem dX10_kindNamed_18 : decode cX10_kindNamed 18 = .ok (.ldc 100, 2) := by decide +kernel
theorem dX10_kindNamed_20 : decode cX10_kindNamed 20 = .ok (.invokevirtual 40, 3) := by decide +kernel
theorem dX10_kindNamed_23 : decode cX10_kindNamed 23 = .ok (.ifCond .eq 5, 3) := by decide +kernel
theorem dX10_kindNamed_26 : decode cX10_kindNamed 26 = .ok (.iconst 1, 1) := by decide +kernel
theorem dX10_kindNamed_27 : decode cX10_kindNamed 27 = .ok (.ireturn, 1) := by decide +kernel
theorem dX10_kindNamed_28 : decode cX10_kindNamed 28 = .ok (.aload_n 0, 1) := by decide +kernel
theorem dX10_kindNamed_29 : decode cX10_kindNamed 29 = .ok (.getfield 9, 3) := by decide +kernel
theorem dX10_kindNamed_32 : decode cX10_kindNamed 32 = .ok (.ldc 102, 2) := by decide +kernel
theorem dX10_kindNamed_34 : decode cX10_kindNamed 34 = .ok (.invokevirtual 40, 3) := by decide +kernel
theorem dX10_kindNamed_37 : decode cX10_kindNamed 37 = .ok (.ifCond .eq 5, 3) := by decide +kernel
theorem dX10_kindNamed_40 : decode cX10_kindNamed 40 = .ok (.iconst 2, 1) := by decide +kernel
theorem dX10_kindNamed_41 : decode cX10_kindNamed 41 = .ok (.ireturn, 1) := by decide +kernel
theorem dX10_kindNamed_42 : decode cX10_kindNamed 42 = .ok (.aload_n 0, 1) := by decide +kernel
theorem dX10_kindNamed_43 : decode cX10_kindNamed 43 = .ok (.getfield 9, 3) := by decide +kernel
theorem dX10_kindNamed_46 : decode cX10_kindNamed 46 = .ok (.ldc 104, 2) := by decide +kernel
theorem dX10_kindNamed_48 : decode cX10_kindNamed 48 = .ok (.invokevirtual 40, 3) := by decide +kernel
theorem dX10_kindNamed_51 : decode cX10_kindNamed 51 = .ok (.ifCond .eq 5, 3) := by decide +kernel
theorem dX10_kindNamed_54 : decode cX10_kindNamed 54 = .ok (.iconst 3, 1) := by decide +kernel
theorem dX10_kindNamed_55 : decode cX10_kindNamed 55 = .ok (.ireturn, 1) := by decide +kernel
theorem dX10_kindNamed_56 : decode cX10_kindNamed 56 = .ok (.aload_n 0, 1) := by decide +kernel
theorem dX10_kindNamed_57 : decode cX10_kindNamed 57 = .ok (.getfield 9, 3) := by decide +kernel
theorem dX10_kindNamed_60 : decode cX10_kindNamed 60 = .ok (.ldc 106, 2) := by decide +kernel
theorem dX10_kindNamed_62 : decode cX10_kindNamed 62 = .ok (.invokevirtual 40, 3) := by decide +kernel
theorem dX10_kindNamed_65 : decode cX10_kindNamed 65 = .ok (.ifCond .eq 5, 3) := by decide +kernel
theorem dX10_kindNamed_68 : decode cX10_kindNamed 68 = .ok (.iconst 4, 1) := by decide +kernel
theorem dX10_kindNamed_69 : decode cX10_kindNamed 69 = .ok (.ireturn, 1) := by decide +kernel
theorem dX10_kindNamed_70 : decode cX10_kindNamed 70 = .ok (.aload_n 0, 1) := by decide +kernel
theorem dX10_kindNamed_71 : decode cX10_kindNamed 71 = .ok (.getfield 9, 3) := by decide +kernel
theorem dX10_kindNamed_74 : decode cX10_kindNamed 74 = .ok (.ldc 108, 2) := by decide +kernel
theorem dX10_kindNamed_76 : decode cX10_kindNamed 76 = .ok (.invokevirtual 40, 3) := by decide +kernel
theorem dX10_kindNamed_79 : decode cX10_kindNamed 79 = .ok (.ifCond .eq 7, 3) := by decide +kernel
theorem dX10_kindNamed_82 : decode cX10_kindNamed 82 = .ok (.iconst 5, 1) := by decide +kernel
theorem dX10_kindNamed_83 : decode cX10_kindNamed 83 = .ok (.goto 4, 3) := by decide +kernel
theorem dX10_kindNamed_86 : decode cX10_kindNamed 86 = .ok (.iconst (-1), 1) := by decide +kernel
theorem dX10_kindNamed_87 : decode cX10_kindNamed 87 = .ok (.ireturn, 1) := by decide +kernel
theorem dX11_init_0 : decode cX11_init 0 = .ok (.aload_n 0, 1) := by decide +kernel
theorem dX11_init_1 : decode cX11_init 1 = .ok (.invokespecial 1, 3) := by decide +kernel
theorem dX11_init_4 : decode cX11_init 4 = .ok (.bipush 6, 2) := by decide +kernel
theorem dX11_init_6 : decode cX11_init 6 = .ok (.anewarray 7, 3) := by decide +kernel
theorem dX11_init_9 : decode cX11_init 9 = .ok (.dup, 1) := by decide +kernel
theorem dX11_init_10 : decode cX11_init 10 = .ok (.iconst 0, 1) := by decide +kernel
theorem dX11_init_11 : decode cX11_init 11 = .ok (.new 7, 3) := by decide +kernel
theorem dX11_init_14 : decode cX11_init 14 = .ok (.dup, 1) := by decide +kernel
theorem dX11_init_15 : decode cX11_init 15 = .ok (.invokespecial 9, 3) := by decide +kernel
theorem dX11_init_18 : decode cX11_init 18 = .ok (.aastore, 1) := by decide +kernel
theorem dX11_init_19 : decode cX11_init 19 = .ok (.dup, 1) := by decide +kernel
theorem dX11_init_20 : decode cX11_init 20 = .ok (.iconst 1, 1) := by decide +kernel
theorem dX11_init_21 : decode cX11_init 21 = .ok (.new 10, 3) := by decide +kernel
theorem dX11_init_24 : decode cX11_init 24 = .ok (.dup, 1) := by decide +kernel
theorem dX11_init_25 : decode cX11_init 25 = .ok (.invokespecial 12, 3) := by decide +kernel
theorem dX11_init_28 : decode cX11_init 28 = .ok (.aastore, 1) := by decide +kernel
theorem dX11_init_29 : decode cX11_init 29 = .ok (.dup, 1) := by decide +kernel
theorem dX11_init_30 : decode cX11_init 30 = .ok (.iconst 2, 1) := by decide +kernel
theorem dX11_init_31 : decode cX11_init 31 = .ok (.new 13, 3) := by decide +kernel
theorem dX11_init_34 : decode cX11_init 34 = .ok (.dup, 1) := by decide +kernel
theorem dX11_init_35 : decode cX11_init 35 = .ok (.invokespecial 15, 3) := by decide +kernel
theorem dX11_init_38 : decode cX11_init 38 = .ok (.aastore, 1) := by decide +kernel
theorem dX11_init_39 : decode cX11_init 39 = .ok (.dup, 1) := by decide +kernel
theorem dX11_init_40 : decode cX11_init 40 = .ok (.iconst 3, 1) := by decide +kernel
theorem dX11_init_41 : decode cX11_init 41 = .ok (.new 16, 3) := by decide +kernel
theorem dX11_init_44 : decode cX11_init 44 = .ok (.dup, 1) := by decide +kernel
theorem dX11_init_45 : decode cX11_init 45 = .ok (.invokespecial 18, 3) := by decide +kernel
theorem dX11_init_48 : decode cX11_init 48 = .ok (.aastore, 1) := by decide +kernel
theorem dX11_init_49 : decode cX11_init 49 = .ok (.dup, 1) := by decide +kernel
theorem dX11_init_50 : decode cX11_init 50 = .ok (.iconst 4, 1) := by decide +kernel
theorem dX11_init_51 : decode cX11_init 51 = .ok (.new 19, 3) := by decide +kernel
theorem dX11_init_54 : decode cX11_init 54 = .ok (.dup, 1) := by decide +kernel
theorem dX11_init_55 : decode cX11_init 55 = .ok (.invokespecial 21, 3) := by decide +kernel
theorem dX11_init_58 : decode cX11_init 58 = .ok (.aastore, 1) := by decide +kernel
theorem dX11_init_59 : decode cX11_init 59 = .ok (.dup, 1) := by decide +kernel
theorem dX11_init_60 : decode cX11_init 60 = .ok (.iconst 5, 1) := by decide +kernel
theorem dX11_init_61 : decode cX11_init 61 = .ok (.new 22, 3) := by decide +kernel
theorem dX11_init_64 : decode cX11_init 64 = .ok (.dup, 1) := by decide +kernel
theorem dX11_init_65 : decode cX11_init 65 = .ok (.invokespecial 24, 3) := by decide +kernel
theorem dX11_init_68 : decode cX11_init 68 = .ok (.aastore, 1) := by decide +kernel
theorem dX11_init_69 : decode cX11_init 69 = .ok (.astore_n 1, 1) := by decide +kernel
theorem dX11_init_70 : decode cX11_init 70 = .ok (.aload_n 0, 1) := by decide +kernel
theorem dX11_init_71 : decode cX11_init 71 = .ok (.new 25, 3) := by decide +kernel
theorem dX11_init_74 : decode cX11_init 74 = .ok (.dup, 1) := by decide +kernel
theorem dX11_init_75 : decode cX11_init 75 = .ok (.aload_n 1, 1) := by decide +kernel
theorem dX11_init_76 : decode cX11_init 76 = .ok (.invokespecial 27, 3) := by decide +kernel
theorem dX11_init_79 : decode cX11_init 79 = .ok (.putfield 30, 3) := by decide +kernel
theorem dX11_init_82 : decode cX11_init 82 = .ok (.aload_n 0, 1) := by decide +kernel
theorem dX11_init_83 : decode cX11_init 83 = .ok (.new 25, 3) := by decide +kernel
theorem dX11_init_86 : decode cX11_init 86 = .ok (.dup, 1) := by decide +kernel
theorem dX11_init_87 : decode cX11_init 87 = .ok (.aload_n 1, 1) := by decide +kernel
theorem dX11_init_88 : decode cX11_init 88 = .ok (.invokespecial 27, 3) := by decide +kernel
theorem dX11_init_91 : decode cX11_init 91 = .ok (.putfield 36, 3) := by decide +kernel
theorem dX11_init_94 : decode cX11_init 94 = .ok (.aload_n 0, 1) := by decide +kernel
theorem dX11_init_95 : decode cX11_init 95 = .ok (.new 25, 3) := by decide +kernel
theorem dX11_init_98 : decode cX11_init 98 = .ok (.dup, 1) := by decide +kernel
theorem dX11_init_99 : decode cX11_init 99 = .ok (.aload_n 1, 1) := by decide +kernel
theorem dX11_init_100 : decode cX11_init 100 = .ok (.invokespecial 27, 3) := by decide +kernel
theorem dX11_init_103 : decode cX11_init 103 = .ok (.putfield 39, 3) := by decide +kernel
theorem dX11_init_106 : decode cX11_init 106 = .ok (.aload_n 0, 1) := by decide +kernel
theorem dX11_init_107 : decode cX11_init 107 = .ok (.iconst 0, 1) := by decide +kernel
theorem dX11_init_108 : decode cX11_init 108 = .ok (.putfield 42, 3) := by decide +kernel
theorem dX11_init_111 : decode cX11_init 111 = .ok (.aload_n 0, 1) := by decide +kernel
theorem dX11_init_112 : decode cX11_init 112 = .ok (.new 46, 3) := by decide +kernel
theorem dX11_init_115 : decode cX11_init 115 = .ok (.dup, 1) := by decide +kernel
theorem dX11_init_116 : decode cX11_init 116 = .ok (.invokespecial 48, 3) := by decide +kernel
theorem dX11_init_119 : decode cX11_init 119 = .ok (.putfield 49, 3) := by decide +kernel
theorem dX11_init_122 : decode cX11_init 122 = .ok (.aload_n 0, 1) := by decide +kernel
theorem dX11_init_123 : decode cX11_init 123 = .ok (.new 53, 3) := by decide +kernel
theorem dX11_init_126 : decode cX11_init 126 = .ok (.dup, 1) := by decide +kernel
theorem dX11_init_127 : decode cX11_init 127 = .ok (.invokespecial 55, 3) := by decide +kernel
theorem dX11_init_130 : decode cX11_init 130 = .ok (.putfield 56, 3) := by decide +kernel
theorem dX11_init_133 : decode cX11_init 133 = .ok (.aload_n 0, 1) := by decide +kernel
theorem dX11_init_134 : decode cX11_init 134 = .ok (.new 60, 3) := by decide +kernel
theorem dX11_init_137 : decode cX11_init 137 = .ok (.dup, 1) := by decide +kernel
theorem dX11_init_138 : decode cX11_init 138 = .ok (.aload_n 0, 1) := by decide +kernel
theorem dX11_init_139 : decode cX11_init 139 = .ok (.getfield 56, 3) := by decide +kernel
theorem dX11_init_142 : decode cX11_init 142 = .ok (.invokespecial 62, 3) := by decide +kernel
theorem dX11_init_145 : decode cX11_init 145 = .ok (.putfield 65, 3) := by decide +kernel
theorem dX11_init_148 : decode cX11_init 148 = .ok (.aload_n 0, 1) := by decide +kernel
theorem dX11_init_149 : decode cX11_init 149 = .ok (.iconst 4, 1) := by decide +kernel
theorem dX11_init_150 : decode cX11_init 150 = .ok (.anewarray 69, 3) := by decide +kernel
theorem dX11_init_153 : decode cX11_init 153 = .ok (.putfield 71, 3) := by decide +kernel
theorem dX11_init_156 : decode cX11_init 156 = .ok (.iconst 0, 1) := by decide +kernel
theorem dX11_init_157 : decode cX11_init 157 = .ok (.istore_n 2, 1) := by decide +kernel
theorem dX11_init_158 : decode cX11_init 158 = .ok (.iload_n 2, 1) := by decide +kernel
theorem dX11_init_159 : decode cX11_init 159 = .ok (.iconst 4, 1) := by decide +kernel
theorem dX11_init_160 : decode cX11_init 160 = .ok (.if_icmp .ge 22, 3) := by decide +kernel
theorem dX11_init_163 : decode cX11_init 163 = .ok (.aload_n 0, 1) := by decide +kernel
theorem dX11_init_164 : decode cX11_init 164 = .ok (.getfield 71, 3) := by decide +kernel
theorem dX11_init_167 : decode cX11_init 167 = .ok (.iload_n 2, 1) := by decide +kernel
theorem dX11_init_168 : decode cX11_init 168 = .ok (.new 69, 3) := by decide +kernel
theorem dX11_init_171 : decode cX11_init 171 = .ok (.dup, 1) := by decide +kernel
theorem dX11_init_172 : decode cX11_init 172 = .ok (.invokespecial 75, 3) := by decide +kernel
theorem dX11_init_175 : decode cX11_init 175 = .ok (.aastore, 1) := by decide +kernel
theorem dX11_init_176 : decode cX11_init 176 = .ok (.iinc 2 1, 3) := by decide +kernel
theorem dX11_init_179 : decode cX11_init 179 = .ok (.goto (-21), 3) := by decide +kernel
theorem dX11_init_182 : decode cX11_init 182 = .ok (.aload_n 0, 1) := by decide +kernel
theorem dX11_init_183 : decode cX11_init 183 = .ok (.bipush 7, 2) := by decide +kernel
theorem dX11_init_185 : decode cX11_init 185 = .ok (.newarray .int, 2) := by decide +kernel
theorem dX11_init_187 : decode cX11_init 187 = .ok (.putfield 76, 3) := by decide +kernel
theorem dX11_init_190 : decode cX11_init 190 = .ok (.return_, 1) := by decide +kernel
theorem dX11_moves_0 : decode cX11_moves 0 = .ok (.iload_n 1, 1) := by decide +kernel
theorem dX11_moves_1 : decode cX11_moves 1 = .ok (.iconst 0, 1) := by decide +kernel
theorem dX11_moves_2 : decode cX11_moves 2 = .ok (.bipush 99, 2) := by decide +kernel
theorem dX11_moves_4 : decode cX11_moves 4 = .ok (.invokestatic 80, 3) := by decide +kernel
theorem dX11_moves_7 : decode cX11_moves 7 = .ok (.ifCond .ne 9, 3) := by decide +kernel
theorem dX11_moves_10 : decode cX11_moves 10 = .ok (.aload_n 0, 1) := by decide +kernel
theorem dX11_moves_11 : decode cX11_moves 11 = .ok (.iconst 0, 1) := by decide +kernel
theorem dX11_moves_12 : decode cX11_moves 12 = .ok (.invokevirtual 84, 3) := by decide +kernel
theorem dX11_moves_15 : decode cX11_moves 15 = .ok (.ireturn, 1) := by decide +kernel
theorem dX11_moves_16 : decode cX11_moves 16 = .ok (.aload_n 0, 1) := by decide +kernel
theorem dX11_moves_17 : decode cX11_moves 17 = .ok (.getfield 30, 3) := by decide +kernel
theorem dX11_moves_20 : decode cX11_moves 20 = .ok (.getfield 88, 3) := by decide +kernel
theorem dX11_moves_23 : decode cX11_moves 23 = .ok (.istore_n 2, 1) := by decide +kernel
theorem dX11_moves_24 : decode cX11_moves 24 = .ok (.aload_n 0, 1) := by decide +kernel
theorem dX11_moves_25 : decode cX11_moves 25 = .ok (.getfield 30, 3) := by decide +kernel
theorem dX11_moves_28 : decode cX11_moves 28 = .ok (.iload_n 1, 1) := by decide +kernel
theorem dX11_moves_29 : decode cX11_moves 29 = .ok (.putfield 88, 3) := by decide +kernel
theorem dX11_moves_32 : decode cX11_moves 32 = .ok (.iload_n 2, 1) := by decide +kernel
theorem dX11_moves_33 : decode cX11_moves 33 = .ok (.ireturn, 1) := by decide +kernel
theorem dX11_slip_0 : decode cX11_slip 0 = .ok (.iload_n 1, 1) := by decide +kernel
theorem dX11_slip_1 : decode cX11_slip 1 = .ok (.iconst (-1), 1) := by decide +kernel
theorem dX11_slip_2 : decode cX11_slip 2 = .ok (.iconst 5, 1) := by decide +kernel
theorem dX11_slip_3 : decode cX11_slip 3 = .ok (.invokestatic 80, 3) := by decide +kernel
theorem dX11_slip_6 : decode cX11_slip 6 = .ok (.ifCond .ne 9, 3) := by decide +kernel
theorem dX11_slip_9 : decode cX11_slip 9 = .ok (.aload_n 0, 1) := by decide +kernel
theorem dX11_slip_10 : decode cX11_slip 10 = .ok (.iconst 0, 1) := by decide +kernel
theorem dX11_slip_11 : decode cX11_slip 11 = .ok (.invokevirtual 84, 3) := by decide +kernel
theorem dX11_slip_14 : decode cX11_slip 14 = .ok (.ireturn, 1) := by decide +kernel
theorem dX11_slip_15 : decode cX11_slip 15 = .ok (.aload_n 0, 1) := by decide +kernel
theorem dX11_slip_16 : decode cX11_slip 16 = .ok (.getfield 30, 3) := by decide +kernel
theorem dX11_slip_19 : decode cX11_slip 19 = .ok (.getfield 92, 3) := by decide +kernel
theorem dX11_slip_22 : decode cX11_slip 22 = .ok (.bipush 10, 2) := by decide +kernel
theorem dX11_slip_24 : decode cX11_slip 24 = .ok (.if_icmp .lt 9, 3) := by decide +kernel
theorem dX11_slip_27 : decode cX11_slip 27 = .ok (.aload_n 0, 1) := by decide +kernel
theorem dX11_slip_28 : decode cX11_slip 28 = .ok (.iconst 1, 1) := by decide +kernel
theorem dX11_slip_29 : decode cX11_slip 29 = .ok (.invokevirtual 84, 3) := by decide +kernel
theorem dX11_slip_32 : decode cX11_slip 32 = .ok (.ireturn, 1) := by decide +kernel
theorem dX11_slip_33 : decode cX11_slip 33 = .ok (.aload_n 0, 1) := by decide +kernel
theorem dX11_slip_34 : decode cX11_slip 34 = .ok (.getfield 30, 3) := by decide +kernel
theorem dX11_slip_37 : decode cX11_slip 37 = .ok (.iload_n 1, 1) := by decide +kernel
theorem dX11_slip_38 : decode cX11_slip 38 = .ok (.iconst 0, 1) := by decide +kernel
theorem dX11_slip_39 : decode cX11_slip 39 = .ok (.invokevirtual 95, 3) := by decide +kernel
theorem dX11_slip_42 : decode cX11_slip 42 = .ok (.ireturn, 1) := by decide +kernel
theorem dX11_slipOf_0 : decode cX11_slipOf 0 = .ok (.aload_n 0, 1) := by decide +kernel
theorem dX11_slipOf_1 : decode cX11_slipOf 1 = .ok (.iload_n 1, 1) := by decide +kernel
theorem dX11_slipOf_2 : decode cX11_slipOf 2 = .ok (.invokevirtual 99, 3) := by decide +kernel
theorem dX11_slipOf_5 : decode cX11_slipOf 5 = .ok (.ifCond .eq 9, 3) := by decide +kernel
theorem dX11_slipOf_8 : decode cX11_slipOf 8 = .ok (.aload_n 0, 1) := by decide +kernel
theorem dX11_slipOf_9 : decode cX11_slipOf 9 = .ok (.iconst 0, 1) := by decide +kernel
theorem dX11_slipOf_10 : decode cX11_slipOf 10 = .ok (.invokevirtual 84, 3) := by decide +kernel
theorem dX11_slipOf_13 : decode cX11_slipOf 13 = .ok (.ireturn, 1) := by decide +kernel
theorem dX11_slipOf_14 : decode cX11_slipOf 14 = .ok (.iload_n 2, 1) := by decide +kernel
theorem dX11_slipOf_15 : decode cX11_slipOf 15 = .ok (.tableswitch 78 0 4 #[33, 43, 53, 63, 72], 33) := by decide +kernel
theorem dX11_slipOf_48 : decode cX11_slipOf 48 = .ok (.aload_n 0, 1) := by decide +kernel
theorem dX11_slipOf_49 : decode cX11_slipOf 49 = .ok (.getfield 30, 3) := by decide +kernel
theorem dX11_slipOf_52 : decode cX11_slipOf 52 = .ok (.getfield 103, 3) := by decide +kernel
theorem dX11_slipOf_55 : decode cX11_slipOf 55 = .ok (.iload_n 1, 1) := by decide +kernel
theorem dX11_slipOf_56 : decode cX11_slipOf 56 = .ok (.iaload, 1) := by decide +kernel
theorem dX11_slipOf_57 : decode cX11_slipOf 57 = .ok (.ireturn, 1) := by decide +kernel
theorem dX11_slipOf_58 : decode cX11_slipOf 58 = .ok (.aload_n 0, 1) := by decide +kernel
theorem dX11_slipOf_59 : decode cX11_slipOf 59 = .ok (.getfield 30, 3) := by decide +kernel
theorem dX11_slipOf_62 : decode cX11_slipOf 62 = .ok (.getfield 106, 3) := by decide +kernel
theorem dX11_slipOf_65 : decode cX11_slipOf 65 = .ok (.iload_n 1, 1) := by decide +kernel
theorem dX11_slipOf_66 : decode cX11_slipOf 66 = .ok (.iaload, 1) := by decide +kernel
theorem dX11_slipOf_67 : decode cX11_slipOf 67 = .ok (.ireturn, 1) := by decide +kernel
theorem dX11_slipOf_68 : decode cX11_slipOf 68 = .ok (.aload_n 0, 1) := by decide +kernel
theorem dX11_slipOf_69 : decode cX11_slipOf 69 = .ok (.getfield 30, 3) := by decide +kernel
theorem dX11_slipOf_72 : decode cX11_slipOf 72 = .ok (.getfield 109, 3) := by decide +kernel
theorem dX11_slipOf_75 : decode cX11_slipOf 75 = .ok (.iload_n 1, 1) := by decide +kernel
theorem dX11_slipOf_76 : decode cX11_slipOf 76 = .ok (.iaload, 1) := by decide +kernel
theorem dX11_slipOf_77 : decode cX11_slipOf 77 = .ok (.ireturn, 1) := by decide +kernel
theorem dX11_slipOf_78 : decode cX11_slipOf 78 = .ok (.aload_n 0, 1) := by decide +kernel
theorem dX11_slipOf_79 : decode cX11_slipOf 79 = .ok (.getfield 30, 3) := by decide +kernel
theorem dX11_slipOf_82 : decode cX11_slipOf 82 = .ok (.iload_n 1, 1) := by decide +kernel
theorem dX11_slipOf_83 : decode cX11_slipOf 83 = .ok (.invokevirtual 112, 3) := by decide +kernel
theorem dX11_slipOf_86 : decode cX11_slipOf 86 = .ok (.ireturn, 1) := by decide +kernel
theorem dX11_slipOf_87 : decode cX11_slipOf 87 = .ok (.aload_n 0, 1) := by decide +kernel
theorem dX11_slipOf_88 : decode cX11_slipOf 88 = .ok (.iload_n 1, 1) := by decide +kernel
theorem dX11_slipOf_89 : decode cX11_slipOf 89 = .ok (.invokevirtual 115, 3) := by decide +kernel
theorem dX11_slipOf_92 : decode cX11_slipOf 92 = .ok (.ireturn, 1) := by decide +kernel
theorem dX11_slipOf_93 : decode cX11_slipOf 93 = .ok (.aload_n 0, 1) := by decide +kernel
theorem dX11_slipOf_94 : decode cX11_slipOf 94 = .ok (.iconst 0, 1) := by decide +kernel
theorem dX11_slipOf_95 : decode cX11_slipOf 95 = .ok (.invokevirtual 84, 3) := by decide +kernel
theorem dX11_slipOf_98 : decode cX11_slipOf 98 = .ok (.ireturn, 1) := by decide +kernel
theorem dX11_stick_0 : decode cX11_stick 0 = .ok (.aload_n 0, 1) := by decide +kernel
theorem dX11_stick_1 : decode cX11_stick 1 = .ok (.iload_n 1, 1) := by decide +kernel
theorem dX11_stick_2 : decode cX11_stick 2 = .ok (.invokevirtual 99, 3) := by decide +kernel
theorem dX11_stick_5 : decode cX11_stick 5 = .ok (.ifCond .eq 9, 3) := by decide +kernel
theorem dX11_stick_8 : decode cX11_stick 8 = .ok (.aload_n 0, 1) := by decide +kernel
theorem dX11_stick_9 : decode cX11_stick 9 = .ok (.iconst 0, 1) := by decide +kernel
theorem dX11_stick_10 : decode cX11_stick 10 = .ok (.invokevirtual 84, 3) := by decide +kernel
theorem dX11_stick_13 : decode cX11_stick 13 = .ok (.ireturn, 1) := by decide +kernel
theorem dX11_stick_14 : decode cX11_stick 14 = .ok (.iload_n 2, 1) := by decide +kernel
theorem dX11_stick_15 : decode cX11_stick 15 = .ok (.tableswitch 75 0 2 #[25, 41, 59], 25) := by decide +kernel
theorem dX11_stick_40 : decode cX11_stick 40 = .ok (.aload_n 0, 1) := by decide +kernel
theorem dX11_stick_41 : decode cX11_stick 41 = .ok (.aload_n 0, 1) := by decide +kernel
theorem dX11_stick_42 : decode cX11_stick 42 = .ok (.getfield 30, 3) := by decide +kernel
theorem dX11_stick_45 : decode cX11_stick 45 = .ok (.getfield 103, 3) := by decide +kernel
theorem dX11_stick_48 : decode cX11_stick 48 = .ok (.iload_n 1, 1) := by decide +kernel
theorem dX11_stick_49 : decode cX11_stick 49 = .ok (.iload_n 3, 1) := by decide +kernel
theorem dX11_stick_50 : decode cX11_stick 50 = .ok (.iconst (-1), 1) := by decide +kernel
theorem dX11_stick_51 : decode cX11_stick 51 = .ok (.iconst 5, 1) := by decide +kernel
theorem dX11_stick_52 : decode cX11_stick 52 = .ok (.invokevirtual 118, 3) := by decide +kernel
theorem dX11_stick_55 : decode cX11_stick 55 = .ok (.ireturn, 1) := by decide +kernel
theorem dX11_stick_56 : decode cX11_stick 56 = .ok (.aload_n 0, 1) := by decide +kernel
theorem dX11_stick_57 : decode cX11_stick 57 = .ok (.aload_n 0, 1) := by decide +kernel
theorem dX11_stick_58 : decode cX11_stick 58 = .ok (.getfield 30, 3) := by decide +kernel
theorem dX11_stick_61 : decode cX11_stick 61 = .ok (.getfield 106, 3) := by decide +kernel
theorem dX11_stick_64 : decode cX11_stick 64 = .ok (.iload_n 1, 1) := by decide +kernel
theorem dX11_stick_65 : decode cX11_stick 65 = .ok (.iload_n 3, 1) := by decide +kernel
theorem dX11_stick_66 : decode cX11_stick 66 = .ok (.iconst 0, 1) := by decide +kernel
theorem dX11_stick_67 : decode cX11_stick 67 = .ok (.sipush 999, 3) := by decide +kernel
theorem dX11_stick_70 : decode cX11_stick 70 = .ok (.invokevirtual 118, 3) := by decide +kernel
theorem dX11_stick_73 : decode cX11_stick 73 = .ok (.ireturn, 1) := by decide +kernel
theorem dX11_stick_74 : decode cX11_stick 74 = .ok (.aload_n 0, 1) := by decide +kernel
theorem dX11_stick_75 : decode cX11_stick 75 = .ok (.aload_n 0, 1) := by decide +kernel
theorem dX11_stick_76 : decode cX11_stick 76 = .ok (.getfield 30, 3) := by decide +kernel
theorem dX11_stick_79 : decode cX11_stick 79 = .ok (.getfield 109, 3) := by decide +kernel
theorem dX11_stick_82 : decode cX11_stick 82 = .ok (.iload_n 1, 1) := by decide +kernel
theorem dX11_stick_83 : decode cX11_stick 83 = .ok (.iload_n 3, 1) := by decide +kernel
theorem dX11_stick_84 : decode cX11_stick 84 = .ok (.iconst 0, 1) := by decide +kernel
theorem dX11_stick_85 : decode cX11_stick 85 = .ok (.iconst 1, 1) := by decide +kernel
theorem dX11_stick_86 : decode cX11_stick 86 = .ok (.invokevirtual 118, 3) := by decide +kernel
theorem dX11_stick_89 : decode cX11_stick 89 = .ok (.ireturn, 1) := by decide +kernel
theorem dX11_stick_90 : decode cX11_stick 90 = .ok (.aload_n 0, 1) := by decide +kernel
theorem dX11_stick_91 : decode cX11_stick 91 = .ok (.iconst 0, 1) := by decide +kernel
theorem dX11_stick_92 : decode cX11_stick 92 = .ok (.invokevirtual 84, 3) := by decide +kernel
theorem dX11_stick_95 : decode cX11_stick 95 = .ok (.ireturn, 1) := by decide +kernel
theorem dX11_group_0 : decode cX11_group 0 = .ok (.iload_n 1, 1) := by decide +kernel
theorem dX11_group_1 : decode cX11_group 1 = .ok (.iconst (-1), 1) := by decide +kernel
theorem dX11_group_2 : decode cX11_group 2 = .ok (.iconst 5, 1) := by decide +kernel
theorem dX11_group_3 : decode cX11_group 3 = .ok (.invokestatic 80, 3) := by decide +kernel
theorem dX11_group_6 : decode cX11_group 6 = .ok (.ifCond .ne 9, 3) := by decide +kernel
theorem dX11_group_9 : decode cX11_group 9 = .ok (.aload_n 0, 1) := by decide +kernel
theorem dX11_group_10 : decode cX11_group 10 = .ok (.iconst 0, 1) := by decide +kernel
theorem dX11_group_11 : decode cX11_group 11 = .ok (.invokevirtual 84, 3) := by decide +kernel
theorem dX11_group_14 : decode cX11_group 14 = .ok (.ireturn, 1) := by decide +kernel
theorem dX11_group_15 : decode cX11_group 15 = .ok (.aload_n 0, 1) := by decide +kernel
theorem dX11_group_16 : decode cX11_group 16 = .ok (.getfield 30, 3) := by decide +kernel
theorem dX11_group_19 : decode cX11_group 19 = .ok (.iload_n 1, 1) := by decide +kernel
theorem dX11_group_20 : decode cX11_group 20 = .ok (.invokevirtual 122, 3) := by decide +kernel
theorem dX11_group_23 : decode cX11_group 23 = .ok (.ireturn, 1) := by decide +kernel
theorem dX11_now_0 : decode cX11_now 0 = .ok (.iload_n 1, 1) := by decide +kernel
theorem dX11_now_1 : decode cX11_now 1 = .ok (.tableswitch 87 0 5 #[39, 47, 55, 63, 71, 79], 39) := by decide +kernel
theorem dX11_now_40 : decode cX11_now 40 = .ok (.aload_n 0, 1) := by decide +kernel
theorem dX11_now_41 : decode cX11_now 41 = .ok (.getfield 30, 3) := by decide +kernel
theorem dX11_now_44 : decode cX11_now 44 = .ok (.getfield 125, 3) := by decide +kernel
theorem dX11_now_47 : decode cX11_now 47 = .ok (.ireturn, 1) := by decide +kernel
theorem dX11_now_48 : decode cX11_now 48 = .ok (.aload_n 0, 1) := by decide +kernel
theorem dX11_now_49 : decode cX11_now 49 = .ok (.getfield 30, 3) := by decide +kernel
theorem dX11_now_52 : decode cX11_now 52 = .ok (.getfield 88, 3) := by decide +kernel
theorem dX11_now_55 : decode cX11_now 55 = .ok (.ireturn, 1) := by decide +kernel
theorem dX11_now_56 : decode cX11_now 56 = .ok (.aload_n 0, 1) := by decide +kernel
theorem dX11_now_57 : decode cX11_now 57 = .ok (.getfield 30, 3) := by decide +kernel
theorem dX11_now_60 : decode cX11_now 60 = .ok (.invokevirtual 128, 3) := by decide +kernel
theorem dX11_now_63 : decode cX11_now 63 = .ok (.ireturn, 1) := by decide +kernel
theorem dX11_now_64 : decode cX11_now 64 = .ok (.aload_n 0, 1) := by decide +kernel
theorem dX11_now_65 : decode cX11_now 65 = .ok (.getfield 30, 3) := by decide +kernel
theorem dX11_now_68 : decode cX11_now 68 = .ok (.invokevirtual 132, 3) := by decide +kernel
theorem dX11_now_71 : decode cX11_now 71 = .ok (.ireturn, 1) := by decide +kernel
theorem dX11_now_72 : decode cX11_now 72 = .ok (.aload_n 0, 1) := by decide +kernel
theorem dX11_now_73 : decode cX11_now 73 = .ok (.getfield 30, 3) := by decide +kernel
theorem dX11_now_76 : decode cX11_now 76 = .ok (.invokevirtual 135, 3) := by decide +kernel
theorem dX11_now_79 : decode cX11_now 79 = .ok (.ireturn, 1) := by decide +kernel
theorem dX11_now_80 : decode cX11_now 80 = .ok (.aload_n 0, 1) := by decide +kernel
theorem dX11_now_81 : decode cX11_now 81 = .ok (.getfield 30, 3) := by decide +kernel
theorem dX11_now_84 : decode cX11_now 84 = .ok (.invokevirtual 138, 3) := by decide +kernel
theorem dX11_now_87 : decode cX11_now 87 = .ok (.ireturn, 1) := by decide +kernel
theorem dX11_now_88 : decode cX11_now 88 = .ok (.aload_n 0, 1) := by decide +kernel
theorem dX11_now_89 : decode cX11_now 89 = .ok (.iconst 0, 1) := by decide +kernel
theorem dX11_now_90 : decode cX11_now 90 = .ok (.invokevirtual 84, 3) := by decide +kernel
theorem dX11_now_93 : decode cX11_now 93 = .ok (.ireturn, 1) := by decide +kernel
theorem dX11_person_0 : decode cX11_person 0 = .ok (.iload_n 1, 1) := by decide +kernel
theorem dX11_person_1 : decode cX11_person 1 = .ok (.iconst 0, 1) := by decide +kernel
theorem dX11_person_2 : decode cX11_person 2 = .ok (.iconst 5, 1) := by decide +kernel
theorem dX11_person_3 : decode cX11_person 3 = .ok (.invokestatic 80, 3) := by decide +kernel
theorem dX11_person_6 : decode cX11_person 6 = .ok (.ifCond .ne 9, 3) := by decide +kernel
theorem dX11_person_9 : decode cX11_person 9 = .ok (.aload_n 0, 1) := by decide +kernel
theorem dX11_person_10 : decode cX11_person 10 = .ok (.iconst 0, 1) := by decide +kernel
theorem dX11_person_11 : decode cX11_person 11 = .ok (.invokevirtual 84, 3) := by decide +kernel
theorem dX11_person_14 : decode cX11_person 14 = .ok (.ireturn, 1) := by decide +kernel
theorem dX11_person_15 : decode cX11_person 15 = .ok (.aload_n 0, 1) := by decide +kernel
theorem dX11_person_16 : decode cX11_person 16 = .ok (.getfield 30, 3) := by decide +kernel
theorem dX11_person_19 : decode cX11_person 19 = .ok (.getfield 141, 3) := by decide +kernel
theorem dX11_person_22 : decode cX11_person 22 = .ok (.bipush 6, 2) := by decide +kernel
theorem dX11_person_24 : decode cX11_person 24 = .ok (.if_icmp .lt 9, 3) := by decide +kernel
theorem dX11_person_27 : decode cX11_person 27 = .ok (.aload_n 0, 1) := by decide +kernel
theorem dX11_person_28 : decode cX11_person 28 = .ok (.iconst 1, 1) := by decide +kernel
theorem dX11_person_29 : decode cX11_person 29 = .ok (.invokevirtual 84, 3) := by decide +kernel
theorem dX11_person_32 : decode cX11_person 32 = .ok (.ireturn, 1) := by decide +kernel
theorem dX11_person_33 : decode cX11_person 33 = .ok (.aload_n 0, 1) := by decide +kernel
theorem dX11_person_34 : decode cX11_person 34 = .ok (.getfield 30, 3) := by decide +kernel
theorem dX11_person_37 : decode cX11_person 37 = .ok (.iload_n 1, 1) := by decide +kernel
theorem dX11_person_38 : decode cX11_person 38 = .ok (.invokevirtual 144, 3) := by decide +kernel
theorem dX11_person_41 : decode cX11_person 41 = .ok (.ireturn, 1) := by decide +kernel
theorem dX11_of_0 : decode cX11_of 0 = .ok (.aload_n 0, 1) := by decide +kernel
theorem dX11_of_1 : decode cX11_of 1 = .ok (.iload_n 1, 1) := by decide +kernel
theorem dX11_of_2 : decode cX11_of 2 = .ok (.invokevirtual 147, 3) := by decide +kernel
theorem dX11_of_5 : decode cX11_of 5 = .ok (.ifCond .eq 9, 3) := by decide +kernel
theorem dX11_of_8 : decode cX11_of 8 = .ok (.aload_n 0, 1) := by decide +kernel
theorem dX11_of_9 : decode cX11_of 9 = .ok (.iconst 0, 1) := by decide +kernel
theorem dX11_of_10 : decode cX11_of 10 = .ok (.invokevirtual 84, 3) := by decide +kernel
theorem dX11_of_13 : decode cX11_of 13 = .ok (.ireturn, 1) := by decide +kernel
theorem dX11_of_14 : decode cX11_of 14 = .ok (.iload_n 2, 1) := by decide +kernel
theorem dX11_of_15 : decode cX11_of 15 = .ok (.tableswitch 80 0 4 #[33, 43, 53, 62, 71], 33) := by decide +kernel
theorem dX11_of_48 : decode cX11_of 48 = .ok (.aload_n 0, 1) := by decide +kernel
theorem dX11_of_49 : decode cX11_of 49 = .ok (.getfield 30, 3) := by decide +kernel
theorem dX11_of_52 : decode cX11_of 52 = .ok (.getfield 150, 3) := by decide +kernel
theorem dX11_of_55 : decode cX11_of 55 = .ok (.iload_n 1, 1) := by decide +kernel
theorem dX11_of_56 : decode cX11_of 56 = .ok (.iaload, 1) := by decide +kernel
theorem dX11_of_57 : decode cX11_of 57 = .ok (.ireturn, 1) := by decide +kernel
theorem dX11_of_58 : decode cX11_of 58 = .ok (.aload_n 0, 1) := by decide +kernel
theorem dX11_of_59 : decode cX11_of 59 = .ok (.getfield 30, 3) := by decide +kernel
theorem dX11_of_62 : decode cX11_of 62 = .ok (.getfield 153, 3) := by decide +kernel
theorem dX11_of_65 : decode cX11_of 65 = .ok (.iload_n 1, 1) := by decide +kernel
theorem dX11_of_66 : decode cX11_of 66 = .ok (.iaload, 1) := by decide +kernel
theorem dX11_of_67 : decode cX11_of 67 = .ok (.ireturn, 1) := by decide +kernel
theorem dX11_of_68 : decode cX11_of 68 = .ok (.aload_n 0, 1) := by decide +kernel
theorem dX11_of_69 : decode cX11_of 69 = .ok (.getfield 30, 3) := by decide +kernel
theorem dX11_of_72 : decode cX11_of 72 = .ok (.iload_n 1, 1) := by decide +kernel
theorem dX11_of_73 : decode cX11_of 73 = .ok (.invokevirtual 156, 3) := by decide +kernel
theorem dX11_of_76 : decode cX11_of 76 = .ok (.ireturn, 1) := by decide +kernel
theorem dX11_of_77 : decode cX11_of 77 = .ok (.aload_n 0, 1) := by decide +kernel
theorem dX11_of_78 : decode cX11_of 78 = .ok (.getfield 30, 3) := by decide +kernel
theorem dX11_of_81 : decode cX11_of 81 = .ok (.iload_n 1, 1) := by decide +kernel
theorem dX11_of_82 : decode cX11_of 82 = .ok (.invokevirtual 159, 3) := by decide +kernel
theorem dX11_of_85 : decode cX11_of 85 = .ok (.ireturn, 1) := by decide +kernel
theorem dX11_of_86 : decode cX11_of 86 = .ok (.aload_n 0, 1) := by decide +kernel
theorem dX11_of_87 : decode cX11_of 87 = .ok (.getfield 30, 3) := by decide +kernel
theorem dX11_of_90 : decode cX11_of 90 = .ok (.iload_n 1, 1) := by decide +kernel
theorem dX11_of_91 : decode cX11_of 91 = .ok (.invokevirtual 162, 3) := by decide +kernel
theorem dX11_of_94 : decode cX11_of 94 = .ok (.ireturn, 1) := by decide +kernel
theorem dX11_of_95 : decode cX11_of 95 = .ok (.aload_n 0, 1) := by decide +kernel
theorem dX11_of_96 : decode cX11_of 96 = .ok (.iconst 0, 1) := by decide +kernel
theorem dX11_of_97 : decode cX11_of 97 = .ok (.invokevirtual 84, 3) := by decide +kernel
theorem dX11_of_100 : decode cX11_of 100 = .ok (.ireturn, 1) := by decide +kernel
theorem dX11_wants_0 : decode cX11_wants 0 = .ok (.aload_n 0, 1) := by decide +kernel
theorem dX11_wants_1 : decode cX11_wants 1 = .ok (.iload_n 1, 1) := by decide +kernel
theorem dX11_wants_2 : decode cX11_wants 2 = .ok (.invokevirtual 147, 3) := by decide +kernel
theorem dX11_wants_5 : decode cX11_wants 5 = .ok (.ifCond .ne 13, 3) := by decide +kernel
theorem dX11_wants_8 : decode cX11_wants 8 = .ok (.iload_n 2, 1) := by decide +kernel
theorem dX11_wants_9 : decode cX11_wants 9 = .ok (.iconst 0, 1) := by decide +kernel
theorem dX11_wants_10 : decode cX11_wants 10 = .ok (.bipush 9, 2) := by decide +kernel
theorem dX11_wants_12 : decode cX11_wants 12 = .ok (.invokestatic 80, 3) := by decide +kernel
theorem dX11_wants_15 : decode cX11_wants 15 = .ok (.ifCond .ne 9, 3) := by decide +kernel
theorem dX11_wants_18 : decode cX11_wants 18 = .ok (.aload_n 0, 1) := by decide +kernel
theorem dX11_wants_19 : decode cX11_wants 19 = .ok (.iconst 0, 1) := by decide +kernel
theorem dX11_wants_20 : decode cX11_wants 20 = .ok (.invokevirtual 84, 3) := by decide +kernel
theorem dX11_wants_23 : decode cX11_wants 23 = .ok (.ireturn, 1) := by decide +kernel
theorem dX11_wants_24 : decode cX11_wants 24 = .ok (.aload_n 0, 1) := by decide +kernel
theorem dX11_wants_25 : decode cX11_wants 25 = .ok (.aload_n 0, 1) := by decide +kernel
theorem dX11_wants_26 : decode cX11_wants 26 = .ok (.getfield 30, 3) := by decide +kernel
theorem dX11_wants_29 : decode cX11_wants 29 = .ok (.getfield 165, 3) := by decide +kernel
theorem dX11_wants_32 : decode cX11_wants 32 = .ok (.iload_n 1, 1) := by decide +kernel
theorem dX11_wants_33 : decode cX11_wants 33 = .ok (.iload_n 2, 1) := by decide +kernel
theorem dX11_wants_34 : decode cX11_wants 34 = .ok (.invokestatic 168, 3) := by decide +kernel
theorem dX11_wants_37 : decode cX11_wants 37 = .ok (.iload_n 3, 1) := by decide +kernel
theorem dX11_wants_38 : decode cX11_wants 38 = .ok (.iconst 0, 1) := by decide +kernel
theorem dX11_wants_39 : decode cX11_wants 39 = .ok (.iconst 5, 1) := by decide +kernel
theorem dX11_wants_40 : decode cX11_wants 40 = .ok (.invokevirtual 118, 3) := by decide +kernel
theorem dX11_wants_43 : decode cX11_wants 43 = .ok (.ireturn, 1) := by decide +kernel
theorem dX11_out_0 : decode cX11_out 0 = .ok (.aload_n 0, 1) := by decide +kernel
theorem dX11_out_1 : decode cX11_out 1 = .ok (.iload_n 1, 1) := by decide +kernel
theorem dX11_out_2 : decode cX11_out 2 = .ok (.invokevirtual 147, 3) := by decide +kernel
theorem dX11_out_5 : decode cX11_out 5 = .ok (.ifCond .eq 9, 3) := by decide +kernel
theorem dX11_out_8 : decode cX11_out 8 = .ok (.aload_n 0, 1) := by decide +kernel
theorem dX11_out_9 : decode cX11_out 9 = .ok (.iconst 0, 1) := by decide +kernel
theorem dX11_out_10 : decode cX11_out 10 = .ok (.invokevirtual 84, 3) := by decide +kernel
theorem dX11_out_13 : decode cX11_out 13 = .ok (.ireturn, 1) := by decide +kernel
theorem dX11_out_14 : decode cX11_out 14 = .ok (.aload_n 0, 1) := by decide +kernel
theorem dX11_out_15 : decode cX11_out 15 = .ok (.aload_n 0, 1) := by decide +kernel
theorem dX11_out_16 : decode cX11_out 16 = .ok (.getfield 30, 3) := by decide +kernel
theorem dX11_out_19 : decode cX11_out 19 = .ok (.getfield 153, 3) := by decide +kernel
theorem dX11_out_22 : decode cX11_out 22 = .ok (.iload_n 1, 1) := by decide +kernel
theorem dX11_out_23 : decode cX11_out 23 = .ok (.iload_n 2, 1) := by decide +kernel
theorem dX11_out_24 : decode cX11_out 24 = .ok (.iconst 0, 1) := by decide +kernel
theorem dX11_out_25 : decode cX11_out 25 = .ok (.iconst 1, 1) := by decide +kernel
theorem dX11_out_26 : decode cX11_out 26 = .ok (.invokevirtual 118, 3) := by decide +kernel
theorem dX11_out_29 : decode cX11_out 29 = .ok (.ireturn, 1) := by decide +kernel
theorem dX11_turn_0 : decode cX11_turn 0 = .ok (.aload_n 0, 1) := by decide +kernel
theorem dX11_turn_1 : decode cX11_turn 1 = .ok (.iload_n 1, 1) := by decide +kernel
theorem dX11_turn_2 : decode cX11_turn 2 = .ok (.invokevirtual 147, 3) := by decide +kernel
theorem dX11_turn_5 : decode cX11_turn 5 = .ok (.ifCond .eq 9, 3) := by decide +kernel
theorem dX11_turn_8 : decode cX11_turn 8 = .ok (.aload_n 0, 1) := by decide +kernel
theorem dX11_turn_9 : decode cX11_turn 9 = .ok (.iconst 0, 1) := by decide +kernel
theorem dX11_turn_10 : decode cX11_turn 10 = .ok (.invokevirtual 84, 3) := by decide +kernel
theorem dX11_turn_13 : decode cX11_turn 13 = .ok (.ireturn, 1) := by decide +kernel
theorem dX11_turn_14 : decode cX11_turn 14 = .ok (.aload_n 0, 1) := by decide +kernel
theorem dX11_turn_15 : decode cX11_turn 15 = .ok (.aload_n 0, 1) := by decide +kernel
theorem dX11_turn_16 : decode cX11_turn 16 = .ok (.getfield 30, 3) := by decide +kernel
theorem dX11_turn_19 : decode cX11_turn 19 = .ok (.getfield 150, 3) := by decide +kernel
theorem dX11_turn_22 : decode cX11_turn 22 = .ok (.iload_n 1, 1) := by decide +kernel
theorem dX11_turn_23 : decode cX11_turn 23 = .ok (.iload_n 2, 1) := by decide +kernel
theorem dX11_turn_24 : decode cX11_turn 24 = .ok (.iconst 0, 1) := by decide +kernel
theorem dX11_turn_25 : decode cX11_turn 25 = .ok (.iconst 5, 1) := by decide +kernel
theorem dX11_turn_26 : decode cX11_turn 26 = .ok (.invokevirtual 118, 3) := by decide +kernel
theorem dX11_turn_29 : decode cX11_turn 29 = .ok (.ireturn, 1) := by decide +kernel
theorem dX11_as_0 : decode cX11_as 0 = .ok (.aload_n 0, 1) := by decide +kernel
theorem dX11_as_1 : decode cX11_as 1 = .ok (.iload_n 1, 1) := by decide +kernel
theorem dX11_as_2 : decode cX11_as 2 = .ok (.invokevirtual 147, 3) := by decide +kernel
theorem dX11_as_5 : decode cX11_as 5 = .ok (.ifCond .ne 12, 3) := by decide +kernel
theorem dX11_as_8 : decode cX11_as 8 = .ok (.iload_n 2, 1) := by decide +kernel
theorem dX11_as_9 : decode cX11_as 9 = .ok (.iconst 0, 1) := by decide +kernel
theorem dX11_as_10 : decode cX11_as 10 = .ok (.iconst 5, 1) := by decide +kernel
theorem dX11_as_11 : decode cX11_as 11 = .ok (.invokestatic 80, 3) := by decide +kernel
theorem dX11_as_14 : decode cX11_as 14 = .ok (.ifCond .ne 9, 3) := by decide +kernel
theorem dX11_as_17 : decode cX11_as 17 = .ok (.aload_n 0, 1) := by decide +kernel
theorem dX11_as_18 : decode cX11_as 18 = .ok (.iconst 0, 1) := by decide +kernel
theorem dX11_as_19 : decode cX11_as 19 = .ok (.invokevirtual 84, 3) := by decide +kernel
theorem dX11_as_22 : decode cX11_as 22 = .ok (.ireturn, 1) := by decide +kernel
theorem dX11_as_23 : decode cX11_as 23 = .ok (.aload_n 0, 1) := by decide +kernel
theorem dX11_as_24 : decode cX11_as 24 = .ok (.getfield 30, 3) := by decide +kernel
theorem dX11_as_27 : decode cX11_as 27 = .ok (.iload_n 1, 1) := by decide +kernel
theorem dX11_as_28 : decode cX11_as 28 = .ok (.iload_n 2, 1) := by decide +kernel
theorem dX11_as_29 : decode cX11_as 29 = .ok (.invokevirtual 171, 3) := by decide +kernel
theorem dX11_as_32 : decode cX11_as 32 = .ok (.ifCond .ne 9, 3) := by decide +kernel
theorem dX11_as_35 : decode cX11_as 35 = .ok (.aload_n 0, 1) := by decide +kernel
theorem dX11_as_36 : decode cX11_as 36 = .ok (.iconst 2, 1) := by decide +kernel
theorem dX11_as_37 : decode cX11_as 37 = .ok (.invokevirtual 84, 3) := by decide +kernel
theorem dX11_as_40 : decode cX11_as 40 = .ok (.ireturn, 1) := by decide +kernel
theorem dX11_as_41 : decode cX11_as 41 = .ok (.aload_n 0, 1) := by decide +kernel
theorem dX11_as_42 : decode cX11_as 42 = .ok (.getfield 30, 3) := by decide +kernel
theorem dX11_as_45 : decode cX11_as 45 = .ok (.iload_n 1, 1) := by decide +kernel
theorem dX11_as_46 : decode cX11_as 46 = .ok (.invokevirtual 175, 3) := by decide +kernel
theorem dX11_as_49 : decode cX11_as 49 = .ok (.ireturn, 1) := by decide +kernel
theorem dX11_alike_0 : decode cX11_alike 0 = .ok (.aload_n 0, 1) := by decide +kernel
theorem dX11_alike_1 : decode cX11_alike 1 = .ok (.iload_n 1, 1) := by decide +kernel
theorem dX11_alike_2 : decode cX11_alike 2 = .ok (.invokevirtual 147, 3) := by decide +kernel
theorem dX11_alike_5 : decode cX11_alike 5 = .ok (.ifCond .ne 16, 3) := by decide +kernel
theorem dX11_alike_8 : decode cX11_alike 8 = .ok (.aload_n 0, 1) := by decide +kernel
theorem dX11_alike_9 : decode cX11_alike 9 = .ok (.iload_n 2, 1) := by decide +kernel
theorem dX11_alike_10 : decode cX11_alike 10 = .ok (.invokevirtual 147, 3) := by decide +kernel
theorem dX11_alike_13 : decode cX11_alike 13 = .ok (.ifCond .ne 8, 3) := by decide +kernel
theorem dX11_alike_16 : decode cX11_alike 16 = .ok (.iload_n 1, 1) := by decide +kernel
theorem dX11_alike_17 : decode cX11_alike 17 = .ok (.iload_n 2, 1) := by decide +kernel
theorem dX11_alike_18 : decode cX11_alike 18 = .ok (.if_icmp .ne 9, 3) := by decide +kernel
theorem dX11_alike_21 : decode cX11_alike 21 = .ok (.aload_n 0, 1) := by decide +kernel
theorem dX11_alike_22 : decode cX11_alike 22 = .ok (.iconst 0, 1) := by decide +kernel
theorem dX11_alike_23 : decode cX11_alike 23 = .ok (.invokevirtual 84, 3) := by decide +kernel
theorem dX11_alike_26 : decode cX11_alike 26 = .ok (.ireturn, 1) := by decide +kernel
theorem dX11_alike_27 : decode cX11_alike 27 = .ok (.aload_n 0, 1) := by decide +kernel
theorem dX11_alike_28 : decode cX11_alike 28 = .ok (.getfield 30, 3) := by decide +kernel
theorem dX11_alike_31 : decode cX11_alike 31 = .ok (.iload_n 1, 1) := by decide +kernel
theorem dX11_alike_32 : decode cX11_alike 32 = .ok (.iload_n 2, 1) := by decide +kernel
theorem dX11_alike_33 : decode cX11_alike 33 = .ok (.invokevirtual 178, 3) := by decide +kernel
theorem dX11_alike_36 : decode cX11_alike 36 = .ok (.ireturn, 1) := by decide +kernel
theorem dX11_minutes_0 : decode cX11_minutes 0 = .ok (.iload_n 1, 1) := by decide +kernel
theorem dX11_minutes_1 : decode cX11_minutes 1 = .ok (.iconst 1, 1) := by decide +kernel
theorem dX11_minutes_2 : decode cX11_minutes 2 = .ok (.bipush 100, 2) := by decide +kernel
theorem dX11_minutes_4 : decode cX11_minutes 4 = .ok (.invokestatic 80, 3) := by decide +kernel
theorem dX11_minutes_7 : decode cX11_minutes 7 = .ok (.ifCond .ne 9, 3) := by decide +kernel
theorem dX11_minutes_10 : decode cX11_minutes 10 = .ok (.aload_n 0, 1) := by decide +kernel
theorem dX11_minutes_11 : decode cX11_minutes 11 = .ok (.iconst 0, 1) := by decide +kernel
theorem dX11_minutes_12 : decode cX11_minutes 12 = .ok (.invokevirtual 84, 3) := by decide +kernel
theorem dX11_minutes_15 : decode cX11_minutes 15 = .ok (.ireturn, 1) := by decide +kernel
theorem dX11_minutes_16 : decode cX11_minutes 16 = .ok (.aload_n 0, 1) := by decide +kernel
theorem dX11_minutes_17 : decode cX11_minutes 17 = .ok (.getfield 30, 3) := by decide +kernel
theorem dX11_minutes_20 : decode cX11_minutes 20 = .ok (.getfield 125, 3) := by decide +kernel
theorem dX11_minutes_23 : decode cX11_minutes 23 = .ok (.ldc 181, 2) := by decide +kernel
theorem dX11_minutes_25 : decode cX11_minutes 25 = .ok (.iload_n 1, 1) := by decide +kernel
theorem dX11_minutes_26 : decode cX11_minutes 26 = .ok (.isub, 1) := by decide +kernel
theorem dX11_minutes_27 : decode cX11_minutes 27 = .ok (.if_icmp .le 9, 3) := by decide +kernel
theorem dX11_minutes_30 : decode cX11_minutes 30 = .ok (.aload_n 0, 1) := by decide +kernel
theorem dX11_minutes_31 : decode cX11_minutes 31 = .ok (.iconst 4, 1) := by decide +kernel
theorem dX11_minutes_32 : decode cX11_minutes 32 = .ok (.invokevirtual 84, 3) := by decide +kernel
theorem dX11_minutes_35 : decode cX11_minutes 35 = .ok (.ireturn, 1) := by decide +kernel
theorem dX11_minutes_36 : decode cX11_minutes 36 = .ok (.aload_n 0, 1) := by decide +kernel
theorem dX11_minutes_37 : decode cX11_minutes 37 = .ok (.getfield 30, 3) := by decide +kernel
theorem dX11_minutes_40 : decode cX11_minutes 40 = .ok (.iload_n 1, 1) := by decide +kernel
theorem dX11_minutes_41 : decode cX11_minutes 41 = .ok (.invokevirtual 182, 3) := by decide +kernel
theorem dX11_minutes_44 : decode cX11_minutes 44 = .ok (.aload_n 0, 1) := by decide +kernel
theorem dX11_minutes_45 : decode cX11_minutes 45 = .ok (.getfield 30, 3) := by decide +kernel
theorem dX11_minutes_48 : decode cX11_minutes 48 = .ok (.invokevirtual 138, 3) := by decide +kernel
theorem dX11_minutes_51 : decode cX11_minutes 51 = .ok (.ireturn, 1) := by decide +kernel
theorem dX11_on_0 : decode cX11_on 0 = .ok (.aload_n 0, 1) := by decide +kernel
theorem dX11_on_1 : decode cX11_on 1 = .ok (.iload_n 1, 1) := by decide +kernel
theorem dX11_on_2 : decode cX11_on 2 = .ok (.invokevirtual 99, 3) := by decide +kernel
theorem dX11_on_5 : decode cX11_on 5 = .ok (.ifCond .ne 23, 3) := by decide +kernel
theorem dX11_on_8 : decode cX11_on 8 = .ok (.iload_n 2, 1) := by decide +kernel
theorem dX11_on_9 : decode cX11_on 9 = .ok (.iconst 0, 1) := by decide +kernel
theorem dX11_on_10 : decode cX11_on 10 = .ok (.sipush 200, 3) := by decide +kernel
theorem dX11_on_13 : decode cX11_on 13 = .ok (.invokestatic 80, 3) := by decide +kernel
theorem dX11_on_16 : decode cX11_on 16 = .ok (.ifCond .eq 12, 3) := by decide +kernel
theorem dX11_on_19 : decode cX11_on 19 = .ok (.iload_n 3, 1) := by decide +kernel
theorem dX11_on_20 : decode cX11_on 20 = .ok (.iconst 0, 1) := by decide +kernel
theorem dX11_on_21 : decode cX11_on 21 = .ok (.iconst 2, 1) := by decide +kernel
theorem dX11_on_22 : decode cX11_on 22 = .ok (.invokestatic 80, 3) := by decide +kernel
theorem dX11_on_25 : decode cX11_on 25 = .ok (.ifCond .ne 9, 3) := by decide +kernel
theorem dX11_on_28 : decode cX11_on 28 = .ok (.aload_n 0, 1) := by decide +kernel
theorem dX11_on_29 : decode cX11_on 29 = .ok (.iconst 0, 1) := by decide +kernel
theorem dX11_on_30 : decode cX11_on 30 = .ok (.invokevirtual 84, 3) := by decide +kernel
theorem dX11_on_33 : decode cX11_on 33 = .ok (.ireturn, 1) := by decide +kernel
theorem dX11_on_34 : decode cX11_on 34 = .ok (.aload_n 0, 1) := by decide +kernel
theorem dX11_on_35 : decode cX11_on 35 = .ok (.iload_n 2, 1) := by decide +kernel
theorem dX11_on_36 : decode cX11_on 36 = .ok (.invokevirtual 186, 3) := by decide +kernel
theorem dX11_on_39 : decode cX11_on 39 = .ok (.iload_n 3, 1) := by decide +kernel
theorem dX11_on_40 : decode cX11_on 40 = .ok (.lookupswitch 48 #[(0, 28), (1, 38)], 28) := by decide +kernel
theorem dX11_on_68 : decode cX11_on 68 = .ok (.aload_n 0, 1) := by decide +kernel
theorem dX11_on_69 : decode cX11_on 69 = .ok (.getfield 36, 3) := by decide +kernel
theorem dX11_on_72 : decode cX11_on 72 = .ok (.getfield 103, 3) := by decide +kernel
theorem dX11_on_75 : decode cX11_on 75 = .ok (.iload_n 1, 1) := by decide +kernel
theorem dX11_on_76 : decode cX11_on 76 = .ok (.iaload, 1) := by decide +kernel
theorem dX11_on_77 : decode cX11_on 77 = .ok (.ireturn, 1) := by decide +kernel
theorem dX11_on_78 : decode cX11_on 78 = .ok (.aload_n 0, 1) := by decide +kernel
theorem dX11_on_79 : decode cX11_on 79 = .ok (.getfield 36, 3) := by decide +kernel
theorem dX11_on_82 : decode cX11_on 82 = .ok (.getfield 106, 3) := by decide +kernel
theorem dX11_on_85 : decode cX11_on 85 = .ok (.iload_n 1, 1) := by decide +kernel
theorem dX11_on_86 : decode cX11_on 86 = .ok (.iaload, 1) := by decide +kernel
theorem dX11_on_87 : decode cX11_on 87 = .ok (.ireturn, 1) := by decide +kernel
theorem dX11_on_88 : decode cX11_on 88 = .ok (.aload_n 0, 1) := by decide +kernel
theorem dX11_on_89 : decode cX11_on 89 = .ok (.getfield 36, 3) := by decide +kernel
theorem dX11_on_92 : decode cX11_on 92 = .ok (.getfield 109, 3) := by decide +kernel
theorem dX11_on_95 : decode cX11_on 95 = .ok (.iload_n 1, 1) := by decide +kernel
theorem dX11_on_96 : decode cX11_on 96 = .ok (.iaload, 1) := by decide +kernel
theorem dX11_on_97 : decode cX11_on 97 = .ok (.ireturn, 1) := by decide +kernel
theorem dX11_way_0 : decode cX11_way 0 = .ok (.aload_n 0, 1) := by decide +kernel
theorem dX11_way_1 : decode cX11_way 1 = .ok (.iload_n 1, 1) := by decide +kernel
theorem dX11_way_2 : decode cX11_way 2 = .ok (.invokevirtual 147, 3) := by decide +kernel
theorem dX11_way_5 : decode cX11_way 5 = .ok (.ifCond .ne 14, 3) := by decide +kernel
theorem dX11_way_8 : decode cX11_way 8 = .ok (.iload_n 2, 1) := by decide +kernel
theorem dX11_way_9 : decode cX11_way 9 = .ok (.iconst 0, 1) := by decide +kernel
theorem dX11_way_10 : decode cX11_way 10 = .ok (.sipush 200, 3) := by decide +kernel
theorem dX11_way_13 : decode cX11_way 13 = .ok (.invokestatic 80, 3) := by decide +kernel
theorem dX11_way_16 : decode cX11_way 16 = .ok (.ifCond .ne 9, 3) := by decide +kernel
theorem dX11_way_19 : decode cX11_way 19 = .ok (.aload_n 0, 1) := by decide +kernel
theorem dX11_way_20 : decode cX11_way 20 = .ok (.iconst 0, 1) := by decide +kernel
theorem dX11_way_21 : decode cX11_way 21 = .ok (.invokevirtual 84, 3) := by decide +kernel
theorem dX11_way_24 : decode cX11_way 24 = .ok (.ireturn, 1) := by decide +kernel
theorem dX11_way_25 : decode cX11_way 25 = .ok (.aload_n 0, 1) := by decide +kernel
theorem dX11_way_26 : decode cX11_way 26 = .ok (.getfield 36, 3) := by decide +kernel
theorem dX11_way_29 : decode cX11_way 29 = .ok (.aload_n 0, 1) := by decide +kernel
theorem dX11_way_30 : decode cX11_way 30 = .ok (.getfield 30, 3) := by decide +kernel
theorem dX11_way_33 : decode cX11_way 33 = .ok (.invokevirtual 189, 3) := by decide +kernel
theorem dX11_way_36 : decode cX11_way 36 = .ok (.aload_n 0, 1) := by decide +kernel
theorem dX11_way_37 : decode cX11_way 37 = .ok (.iload_n 1, 1) := by decide +kernel
theorem dX11_way_38 : decode cX11_way 38 = .ok (.iload_n 2, 1) := by decide +kernel
theorem dX11_way_39 : decode cX11_way 39 = .ok (.invokevirtual 193, 3) := by decide +kernel
theorem dX11_way_42 : decode cX11_way 42 = .ok (.ireturn, 1) := by decide +kernel
theorem dX11_done_0 : decode cX11_done 0 = .ok (.aload_n 0, 1) := by decide +kernel
theorem dX11_done_1 : decode cX11_done 1 = .ok (.getfield 36, 3) := by decide +kernel
theorem dX11_done_4 : decode cX11_done 4 = .ok (.aload_n 0, 1) := by decide +kernel
theorem dX11_done_5 : decode cX11_done 5 = .ok (.getfield 30, 3) := by decide +kernel
theorem dX11_done_8 : decode cX11_done 8 = .ok (.invokevirtual 189, 3) := by decide +kernel
theorem dX11_done_11 : decode cX11_done 11 = .ok (.iconst 0, 1) := by decide +kernel
theorem dX11_done_12 : decode cX11_done 12 = .ok (.istore_n 1, 1) := by decide +kernel
theorem dX11_done_13 : decode cX11_done 13 = .ok (.iconst 0, 1) := by decide +kernel
theorem dX11_done_14 : decode cX11_done 14 = .ok (.istore_n 2, 1) := by decide +kernel
theorem dX11_done_15 : decode cX11_done 15 = .ok (.iload_n 2, 1) := by decide +kernel
theorem dX11_done_16 : decode cX11_done 16 = .ok (.sipush 200, 3) := by decide +kernel
theorem dX11_done_19 : decode cX11_done 19 = .ok (.aload_n 0, 1) := by decide +kernel
theorem dX11_done_20 : decode cX11_done 20 = .ok (.getfield 30, 3) := by decide +kernel
theorem dX11_done_23 : decode cX11_done 23 = .ok (.getfield 141, 3) := by decide +kernel
theorem dX11_done_26 : decode cX11_done 26 = .ok (.iadd, 1) := by decide +kernel
theorem dX11_done_27 : decode cX11_done 27 = .ok (.if_icmp .gt 38, 3) := by decide +kernel
theorem dX11_done_30 : decode cX11_done 30 = .ok (.iload_n 2, 1) := by decide +kernel
theorem dX11_done_31 : decode cX11_done 31 = .ok (.iload_n 1, 1) := by decide +kernel
theorem dX11_done_32 : decode cX11_done 32 = .ok (.isub, 1) := by decide +kernel
theorem dX11_done_33 : decode cX11_done 33 = .ok (.aload_n 0, 1) := by decide +kernel
theorem dX11_done_34 : decode cX11_done 34 = .ok (.getfield 30, 3) := by decide +kernel
theorem dX11_done_37 : decode cX11_done 37 = .ok (.getfield 141, 3) := by decide +kernel
theorem dX11_done_40 : decode cX11_done 40 = .ok (.if_icmp .lt 5, 3) := by decide +kernel
theorem dX11_done_43 : decode cX11_done 43 = .ok (.iload_n 1, 1) := by decide +kernel
theorem dX11_done_44 : decode cX11_done 44 = .ok (.ireturn, 1) := by decide +kernel
theorem dX11_done_45 : decode cX11_done 45 = .ok (.aload_n 0, 1) := by decide +kernel
theorem dX11_done_46 : decode cX11_done 46 = .ok (.getfield 36, 3) := by decide +kernel
theorem dX11_done_49 : decode cX11_done 49 = .ok (.invokevirtual 196, 3) := by decide +kernel
theorem dX11_done_52 : decode cX11_done 52 = .ok (.ifCond .eq 7, 3) := by decide +kernel
theorem dX11_done_55 : decode cX11_done 55 = .ok (.iload_n 2, 1) := by decide +kernel
theorem dX11_done_56 : decode cX11_done 56 = .ok (.iconst 1, 1) := by decide +kernel
theorem dX11_done_57 : decode cX11_done 57 = .ok (.iadd, 1) := by decide +kernel
theorem dX11_done_58 : decode cX11_done 58 = .ok (.istore_n 1, 1) := by decide +kernel
theorem dX11_done_59 : decode cX11_done 59 = .ok (.iinc 2 1, 3) := by decide +kernel
theorem dX11_done_62 : decode cX11_done 62 = .ok (.goto (-47), 3) := by decide +kernel
theorem dX11_done_65 : decode cX11_done 65 = .ok (.aload_n 0, 1) := by decide +kernel
theorem dX11_done_66 : decode cX11_done 66 = .ok (.iconst 3, 1) := by decide +kernel
theorem dX11_done_67 : decode cX11_done 67 = .ok (.invokevirtual 84, 3) := by decide +kernel
theorem dX11_done_70 : decode cX11_done 70 = .ok (.ireturn, 1) := by decide +kernel
theorem dX11_moved_0 : decode cX11_moved 0 = .ok (.aload_n 0, 1) := by decide +kernel
theorem dX11_moved_1 : decode cX11_moved 1 = .ok (.iload_n 1, 1) := by decide +kernel
theorem dX11_moved_2 : decode cX11_moved 2 = .ok (.invokevirtual 99, 3) := by decide +kernel
theorem dX11_moved_5 : decode cX11_moved 5 = .ok (.ifCond .eq 9, 3) := by decide +kernel
theorem dX11_moved_8 : decode cX11_moved 8 = .ok (.aload_n 0, 1) := by decide +kernel
theorem dX11_moved_9 : decode cX11_moved 9 = .ok (.iconst 0, 1) := by decide +kernel
theorem dX11_moved_10 : decode cX11_moved 10 = .ok (.invokevirtual 84, 3) := by decide +kernel
theorem dX11_moved_13 : decode cX11_moved 13 = .ok (.ireturn, 1) := by decide +kernel
theorem dX11_moved_14 : decode cX11_moved 14 = .ok (.aload_n 0, 1) := by decide +kernel
theorem dX11_moved_15 : decode cX11_moved 15 = .ok (.getfield 36, 3) := by decide +kernel
theorem dX11_moved_18 : decode cX11_moved 18 = .ok (.aload_n 0, 1) := by decide +kernel
theorem dX11_moved_19 : decode cX11_moved 19 = .ok (.getfield 30, 3) := by decide +kernel
theorem dX11_moved_22 : decode cX11_moved 22 = .ok (.invokevirtual 189, 3) := by decide +kernel
theorem dX11_moved_25 : decode cX11_moved 25 = .ok (.iconst 1, 1) := by decide +kernel
theorem dX11_moved_26 : decode cX11_moved 26 = .ok (.istore_n 2, 1) := by decide +kernel
theorem dX11_moved_27 : decode cX11_moved 27 = .ok (.iload_n 2, 1) := by decide +kernel
theorem dX11_moved_28 : decode cX11_moved 28 = .ok (.sipush 200, 3) := by decide +kernel
theorem dX11_moved_31 : decode cX11_moved 31 = .ok (.if_icmp .gt 25, 3) := by decide +kernel
theorem dX11_moved_34 : decode cX11_moved 34 = .ok (.aload_n 0, 1) := by decide +kernel
theorem dX11_moved_35 : decode cX11_moved 35 = .ok (.getfield 36, 3) := by decide +kernel
theorem dX11_moved_38 : decode cX11_moved 38 = .ok (.invokevirtual 196, 3) := by decide +kernel
theorem dX11_moved_41 : decode cX11_moved 41 = .ok (.iconst 1, 1) := by decide +kernel
theorem dX11_moved_42 : decode cX11_moved 42 = .ok (.iload_n 1, 1) := by decide +kernel
theorem dX11_moved_43 : decode cX11_moved 43 = .ok (.ishl, 1) := by decide +kernel
theorem dX11_moved_44 : decode cX11_moved 44 = .ok (.iand, 1) := by decide +kernel
theorem dX11_moved_45 : decode cX11_moved 45 = .ok (.ifCond .eq 5, 3) := by decide +kernel
theorem dX11_moved_48 : decode cX11_moved 48 = .ok (.iload_n 2, 1) := by decide +kernel
theorem dX11_moved_49 : decode cX11_moved 49 = .ok (.ireturn, 1) := by decide +kernel
theorem dX11_moved_50 : decode cX11_moved 50 = .ok (.iinc 2 1, 3) := by decide +kernel
theorem dX11_moved_53 : decode cX11_moved 53 = .ok (.goto (-26), 3) := by decide +kernel
theorem dX11_moved_56 : decode cX11_moved 56 = .ok (.aload_n 0, 1) := by decide +kernel
theorem dX11_moved_57 : decode cX11_moved 57 = .ok (.iconst 3, 1) := by decide +kernel
theorem dX11_moved_58 : decode cX11_moved 58 = .ok (.invokevirtual 84, 3) := by decide +kernel
theorem dX11_moved_61 : decode cX11_moved 61 = .ok (.ireturn, 1) := by decide +kernel
theorem dX11_rule_0 : decode cX11_rule 0 = .ok (.aload_n 0, 1) := by decide +kernel
theorem dX11_rule_1 : decode cX11_rule 1 = .ok (.iload_n 1, 1) := by decide +kernel
theorem dX11_rule_2 : decode cX11_rule 2 = .ok (.invokevirtual 147, 3) := by decide +kernel
theorem dX11_rule_5 : decode cX11_rule 5 = .ok (.ifCond .ne 13, 3) := by decide +kernel
theorem dX11_rule_8 : decode cX11_rule 8 = .ok (.iload_n 2, 1) := by decide +kernel
theorem dX11_rule_9 : decode cX11_rule 9 = .ok (.iconst 1, 1) := by decide +kernel
theorem dX11_rule_10 : decode cX11_rule 10 = .ok (.bipush 100, 2) := by decide +kernel
theorem dX11_rule_12 : decode cX11_rule 12 = .ok (.invokestatic 80, 3) := by decide +kernel
theorem dX11_rule_15 : decode cX11_rule 15 = .ok (.ifCond .ne 9, 3) := by decide +kernel
theorem dX11_rule_18 : decode cX11_rule 18 = .ok (.aload_n 0, 1) := by decide +kernel
theorem dX11_rule_19 : decode cX11_rule 19 = .ok (.iconst 0, 1) := by decide +kernel
theorem dX11_rule_20 : decode cX11_rule 20 = .ok (.invokevirtual 84, 3) := by decide +kernel
theorem dX11_rule_23 : decode cX11_rule 23 = .ok (.ireturn, 1) := by decide +kernel
theorem dX11_rule_24 : decode cX11_rule 24 = .ok (.aload_n 0, 1) := by decide +kernel
theorem dX11_rule_25 : decode cX11_rule 25 = .ok (.getfield 49, 3) := by decide +kernel
theorem dX11_rule_28 : decode cX11_rule 28 = .ok (.invokevirtual 199, 3) := by decide +kernel
theorem dX11_rule_31 : decode cX11_rule 31 = .ok (.iconst 0, 1) := by decide +kernel
theorem dX11_rule_32 : decode cX11_rule 32 = .ok (.istore_n 3, 1) := by decide +kernel
theorem dX11_rule_33 : decode cX11_rule 33 = .ok (.iload_n 3, 1) := by decide +kernel
theorem dX11_rule_34 : decode cX11_rule 34 = .ok (.bipush 20, 2) := by decide +kernel
theorem dX11_rule_36 : decode cX11_rule 36 = .ok (.if_icmp .gt 42, 3) := by decide +kernel
theorem dX11_rule_39 : decode cX11_rule 39 = .ok (.aload_n 0, 1) := by decide +kernel
theorem dX11_rule_40 : decode cX11_rule 40 = .ok (.getfield 36, 3) := by decide +kernel
theorem dX11_rule_43 : decode cX11_rule 43 = .ok (.aload_n 0, 1) := by decide +kernel
theorem dX11_rule_44 : decode cX11_rule 44 = .ok (.getfield 30, 3) := by decide +kernel
theorem dX11_rule_47 : decode cX11_rule 47 = .ok (.invokevirtual 189, 3) := by decide +kernel
theorem dX11_rule_50 : decode cX11_rule 50 = .ok (.aload_n 0, 1) := by decide +kernel
theorem dX11_rule_51 : decode cX11_rule 51 = .ok (.getfield 36, 3) := by decide +kernel
theorem dX11_rule_54 : decode cX11_rule 54 = .ok (.iload_n 3, 1) := by decide +kernel
theorem dX11_rule_55 : decode cX11_rule 55 = .ok (.putfield 88, 3) := by decide +kernel
theorem dX11_rule_58 : decode cX11_rule 58 = .ok (.aload_n 0, 1) := by decide +kernel
theorem dX11_rule_59 : decode cX11_rule 59 = .ok (.getfield 49, 3) := by decide +kernel
theorem dX11_rule_62 : decode cX11_rule 62 = .ok (.iload_n 3, 1) := by decide +kernel
theorem dX11_rule_63 : decode cX11_rule 63 = .ok (.aload_n 0, 1) := by decide +kernel
theorem dX11_rule_64 : decode cX11_rule 64 = .ok (.iload_n 1, 1) := by decide +kernel
theorem dX11_rule_65 : decode cX11_rule 65 = .ok (.iload_n 2, 1) := by decide +kernel
theorem dX11_rule_66 : decode cX11_rule 66 = .ok (.invokevirtual 193, 3) := by decide +kernel
theorem dX11_rule_69 : decode cX11_rule 69 = .ok (.invokevirtual 202, 3) := by decide +kernel
theorem dX11_rule_72 : decode cX11_rule 72 = .ok (.iinc 3 1, 3) := by decide +kernel
theorem dX11_rule_75 : decode cX11_rule 75 = .ok (.goto (-42), 3) := by decide +kernel
theorem dX11_rule_78 : decode cX11_rule 78 = .ok (.aload_n 0, 1) := by decide +kernel
theorem dX11_rule_79 : decode cX11_rule 79 = .ok (.getfield 49, 3) := by decide +kernel
theorem dX11_rule_82 : decode cX11_rule 82 = .ok (.getfield 206, 3) := by decide +kernel
theorem dX11_rule_85 : decode cX11_rule 85 = .ok (.ireturn, 1) := by decide +kernel
theorem dX11_send_0 : decode cX11_send 0 = .ok (.aload_n 0, 1) := by decide +kernel
theorem dX11_send_1 : decode cX11_send 1 = .ok (.iload_n 1, 1) := by decide +kernel
theorem dX11_send_2 : decode cX11_send 2 = .ok (.invokevirtual 147, 3) := by decide +kernel
theorem dX11_send_5 : decode cX11_send 5 = .ok (.ifCond .ne 13, 3) := by decide +kernel
theorem dX11_send_8 : decode cX11_send 8 = .ok (.iload_n 2, 1) := by decide +kernel
theorem dX11_send_9 : decode cX11_send 9 = .ok (.iconst 1, 1) := by decide +kernel
theorem dX11_send_10 : decode cX11_send 10 = .ok (.bipush 100, 2) := by decide +kernel
theorem dX11_send_12 : decode cX11_send 12 = .ok (.invokestatic 80, 3) := by decide +kernel
theorem dX11_send_15 : decode cX11_send 15 = .ok (.ifCond .ne 9, 3) := by decide +kernel
theorem dX11_send_18 : decode cX11_send 18 = .ok (.aload_n 0, 1) := by decide +kernel
theorem dX11_send_19 : decode cX11_send 19 = .ok (.iconst 0, 1) := by decide +kernel
theorem dX11_send_20 : decode cX11_send 20 = .ok (.invokevirtual 84, 3) := by decide +kernel
theorem dX11_send_23 : decode cX11_send 23 = .ok (.ireturn, 1) := by decide +kernel
theorem dX11_send_24 : decode cX11_send 24 = .ok (.aload_n 0, 1) := by decide +kernel
theorem dX11_send_25 : decode cX11_send 25 = .ok (.getfield 49, 3) := by decide +kernel
theorem dX11_send_28 : decode cX11_send 28 = .ok (.invokevirtual 199, 3) := by decide +kernel
theorem dX11_send_31 : decode cX11_send 31 = .ok (.iconst 0, 1) := by decide +kernel
theorem dX11_send_32 : decode cX11_send 32 = .ok (.istore_n 3, 1) := by decide +kernel
theorem dX11_send_33 : decode cX11_send 33 = .ok (.iload_n 3, 1) := by decide +kernel
theorem dX11_send_34 : decode cX11_send 34 = .ok (.aload_n 0, 1) := by decide +kernel
theorem dX11_send_35 : decode cX11_send 35 = .ok (.getfield 30, 3) := by decide +kernel
theorem dX11_send_38 : decode cX11_send 38 = .ok (.getfield 141, 3) := by decide +kernel
theorem dX11_send_41 : decode cX11_send 41 = .ok (.if_icmp .ge 61, 3) := by decide +kernel
theorem dX11_send_44 : decode cX11_send 44 = .ok (.iload_n 3, 1) := by decide +kernel
theorem dX11_send_45 : decode cX11_send 45 = .ok (.iload_n 1, 1) := by decide +kernel
theorem dX11_send_46 : decode cX11_send 46 = .ok (.if_icmp .eq 50, 3) := by decide +kernel
theorem dX11_send_49 : decode cX11_send 49 = .ok (.aload_n 0, 1) := by decide +kernel
theorem dX11_send_50 : decode cX11_send 50 = .ok (.getfield 30, 3) := by decide +kernel
theorem dX11_send_53 : decode cX11_send 53 = .ok (.getfield 153, 3) := by decide +kernel
theorem dX11_send_56 : decode cX11_send 56 = .ok (.iload_n 3, 1) := by decide +kernel
theorem dX11_send_57 : decode cX11_send 57 = .ok (.iaload, 1) := by decide +kernel
theorem dX11_send_58 : decode cX11_send 58 = .ok (.ifCond .ne 38, 3) := by decide +kernel
theorem dX11_send_61 : decode cX11_send 61 = .ok (.aload_n 0, 1) := by decide +kernel
theorem dX11_send_62 : decode cX11_send 62 = .ok (.getfield 36, 3) := by decide +kernel
theorem dX11_send_65 : decode cX11_send 65 = .ok (.aload_n 0, 1) := by decide +kernel
theorem dX11_send_66 : decode cX11_send 66 = .ok (.getfield 30, 3) := by decide +kernel
theorem dX11_send_69 : decode cX11_send 69 = .ok (.invokevirtual 189, 3) := by decide +kernel
theorem dX11_send_72 : decode cX11_send 72 = .ok (.aload_n 0, 1) := by decide +kernel
theorem dX11_send_73 : decode cX11_send 73 = .ok (.getfield 36, 3) := by decide +kernel
theorem dX11_send_76 : decode cX11_send 76 = .ok (.getfield 153, 3) := by decide +kernel
theorem dX11_send_79 : decode cX11_send 79 = .ok (.iload_n 3, 1) := by decide +kernel
theorem dX11_send_80 : decode cX11_send 80 = .ok (.iconst 1, 1) := by decide +kernel
theorem dX11_send_81 : decode cX11_send 81 = .ok (.iastore, 1) := by decide +kernel
theorem dX11_send_82 : decode cX11_send 82 = .ok (.aload_n 0, 1) := by decide +kernel
theorem dX11_send_83 : decode cX11_send 83 = .ok (.getfield 49, 3) := by decide +kernel
theorem dX11_send_86 : decode cX11_send 86 = .ok (.iload_n 3, 1) := by decide +kernel
theorem dX11_send_87 : decode cX11_send 87 = .ok (.aload_n 0, 1) := by decide +kernel
theorem dX11_send_88 : decode cX11_send 88 = .ok (.iload_n 1, 1) := by decide +kernel
theorem dX11_send_89 : decode cX11_send 89 = .ok (.iload_n 2, 1) := by decide +kernel
theorem dX11_send_90 : decode cX11_send 90 = .ok (.invokevirtual 193, 3) := by decide +kernel
theorem dX11_send_93 : decode cX11_send 93 = .ok (.invokevirtual 202, 3) := by decide +kernel
theorem dX11_send_96 : decode cX11_send 96 = .ok (.iinc 3 1, 3) := by decide +kernel
theorem dX11_send_99 : decode cX11_send 99 = .ok (.goto (-66), 3) := by decide +kernel
theorem dX11_send_102 : decode cX11_send 102 = .ok (.aload_n 0, 1) := by decide +kernel
theorem dX11_send_103 : decode cX11_send 103 = .ok (.invokevirtual 209, 3) := by decide +kernel
theorem dX11_send_106 : decode cX11_send 106 = .ok (.ireturn, 1) := by decide +kernel
theorem dX11_kind_0 : decode cX11_kind 0 = .ok (.aload_n 0, 1) := by decide +kernel
theorem dX11_kind_1 : decode cX11_kind 1 = .ok (.iload_n 1, 1) := by decide +kernel
theorem dX11_kind_2 : decode cX11_kind 2 = .ok (.invokevirtual 147, 3) := by decide +kernel
theorem dX11_kind_5 : decode cX11_kind 5 = .ok (.ifCond .ne 13, 3) := by decide +kernel
theorem dX11_kind_8 : decode cX11_kind 8 = .ok (.iload_n 2, 1) := by decide +kernel
theorem dX11_kind_9 : decode cX11_kind 9 = .ok (.iconst 1, 1) := by decide +kernel
theorem dX11_kind_10 : decode cX11_kind 10 = .ok (.bipush 100, 2) := by decide +kernel
theorem dX11_kind_12 : decode cX11_kind 12 = .ok (.invokestatic 80, 3) := by decide +kernel
theorem dX11_kind_15 : decode cX11_kind 15 = .ok (.ifCond .ne 9, 3) := by decide +kernel
theorem dX11_kind_18 : decode cX11_kind 18 = .ok (.aload_n 0, 1) := by decide +kernel
theorem dX11_kind_19 : decode cX11_kind 19 = .ok (.iconst 0, 1) := by decide +kernel
theorem dX11_kind_20 : decode cX11_kind 20 = .ok (.invokevirtual 84, 3) := by decide +kernel
theorem dX11_kind_23 : decode cX11_kind 23 = .ok (.ireturn, 1) := by decide +kernel
theorem dX11_kind_24 : decode cX11_kind 24 = .ok (.aload_n 0, 1) := by decide +kernel
theorem dX11_kind_25 : decode cX11_kind 25 = .ok (.getfield 49, 3) := by decide +kernel
theorem dX11_kind_28 : decode cX11_kind 28 = .ok (.invokevirtual 199, 3) := by decide +kernel
theorem dX11_kind_31 : decode cX11_kind 31 = .ok (.iconst 0, 1) := by decide +kernel
theorem dX11_kind_32 : decode cX11_kind 32 = .ok (.istore_n 3, 1) := by decide +kernel
theorem dX11_kind_33 : decode cX11_kind 33 = .ok (.iload_n 3, 1) := by decide +kernel
theorem dX11_kind_34 : decode cX11_kind 34 = .ok (.iconst 5, 1) := by decide +kernel
theorem dX11_kind_35 : decode cX11_kind 35 = .ok (.if_icmp .gt 44, 3) := by decide +kernel
theorem dX11_kind_38 : decode cX11_kind 38 = .ok (.aload_n 0, 1) := by decide +kernel
theorem dX11_kind_39 : decode cX11_kind 39 = .ok (.getfield 36, 3) := by decide +kernel
theorem dX11_kind_42 : decode cX11_kind 42 = .ok (.aload_n 0, 1) := by decide +kernel
theorem dX11_kind_43 : decode cX11_kind 43 = .ok (.getfield 30, 3) := by decide +kernel
theorem dX11_kind_46 : decode cX11_kind 46 = .ok (.invokevirtual 189, 3) := by decide +kernel
theorem dX11_kind_49 : decode cX11_kind 49 = .ok (.aload_n 0, 1) := by decide +kernel
theorem dX11_kind_50 : decode cX11_kind 50 = .ok (.getfield 36, 3) := by decide +kernel
theorem dX11_kind_53 : decode cX11_kind 53 = .ok (.getfield 150, 3) := by decide +kernel
theorem dX11_kind_56 : decode cX11_kind 56 = .ok (.iload_n 1, 1) := by decide +kernel
theorem dX11_kind_57 : decode cX11_kind 57 = .ok (.iload_n 3, 1) := by decide +kernel
theorem dX11_kind_58 : decode cX11_kind 58 = .ok (.iastore, 1) := by decide +kernel
theorem dX11_kind_59 : decode cX11_kind 59 = .ok (.aload_n 0, 1) := by decide +kernel
theorem dX11_kind_60 : decode cX11_kind 60 = .ok (.getfield 49, 3) := by decide +kernel
theorem dX11_kind_63 : decode cX11_kind 63 = .ok (.iload_n 3, 1) := by decide +kernel
theorem dX11_kind_64 : decode cX11_kind 64 = .ok (.aload_n 0, 1) := by decide +kernel
theorem dX11_kind_65 : decode cX11_kind 65 = .ok (.iload_n 1, 1) := by decide +kernel
theorem dX11_kind_66 : decode cX11_kind 66 = .ok (.iload_n 2, 1) := by decide +kernel
theorem dX11_kind_67 : decode cX11_kind 67 = .ok (.invokevirtual 193, 3) := by decide +kernel
theorem dX11_kind_70 : decode cX11_kind 70 = .ok (.invokevirtual 202, 3) := by decide +kernel
theorem dX11_kind_73 : decode cX11_kind 73 = .ok (.iinc 3 1, 3) := by decide +kernel
theorem dX11_kind_76 : decode cX11_kind 76 = .ok (.goto (-43), 3) := by decide +kernel
theorem dX11_kind_79 : decode cX11_kind 79 = .ok (.aload_n 0, 1) := by decide +kernel
theorem dX11_kind_80 : decode cX11_kind 80 = .ok (.getfield 49, 3) := by decide +kernel
theorem dX11_kind_83 : decode cX11_kind 83 = .ok (.getfield 206, 3) := by decide +kernel
theorem dX11_kind_86 : decode cX11_kind 86 = .ok (.ireturn, 1) := by decide +kernel
theorem dX11_pair_0 : decode cX11_pair 0 = .ok (.aload_n 0, 1) := by decide +kernel
theorem dX11_pair_1 : decode cX11_pair 1 = .ok (.getfield 49, 3) := by decide +kernel
theorem dX11_pair_4 : decode cX11_pair 4 = .ok (.invokevirtual 199, 3) := by decide +kernel
theorem dX11_pair_7 : decode cX11_pair 7 = .ok (.iconst 0, 1) := by decide +kernel
theorem dX11_pair_8 : decode cX11_pair 8 = .ok (.istore_n 1, 1) := by decide +kernel
theorem dX11_pair_9 : decode cX11_pair 9 = .ok (.iload_n 1, 1) := by decide +kernel
theorem dX11_pair_10 : decode cX11_pair 10 = .ok (.aload_n 0, 1) := by decide +kernel
theorem dX11_pair_11 : decode cX11_pair 11 = .ok (.getfield 30, 3) := by decide +kernel
theorem dX11_pair_14 : decode cX11_pair 14 = .ok (.getfield 141, 3) := by decide +kernel
theorem dX11_pair_17 : decode cX11_pair 17 = .ok (.if_icmp .ge 52, 3) := by decide +kernel
theorem dX11_pair_20 : decode cX11_pair 20 = .ok (.iload_n 1, 1) := by decide +kernel
theorem dX11_pair_21 : decode cX11_pair 21 = .ok (.iconst 1, 1) := by decide +kernel
theorem dX11_pair_22 : decode cX11_pair 22 = .ok (.iadd, 1) := by decide +kernel
theorem dX11_pair_23 : decode cX11_pair 23 = .ok (.istore_n 2, 1) := by decide +kernel
theorem dX11_pair_24 : decode cX11_pair 24 = .ok (.iload_n 2, 1) := by decide +kernel
theorem dX11_pair_25 : decode cX11_pair 25 = .ok (.aload_n 0, 1) := by decide +kernel
theorem dX11_pair_26 : decode cX11_pair 26 = .ok (.getfield 30, 3) := by decide +kernel
theorem dX11_pair_29 : decode cX11_pair 29 = .ok (.getfield 141, 3) := by decide +kernel
theorem dX11_pair_32 : decode cX11_pair 32 = .ok (.if_icmp .ge 31, 3) := by decide +kernel
theorem dX11_pair_35 : decode cX11_pair 35 = .ok (.aload_n 0, 1) := by decide +kernel
theorem dX11_pair_36 : decode cX11_pair 36 = .ok (.getfield 49, 3) := by decide +kernel
theorem dX11_pair_39 : decode cX11_pair 39 = .ok (.bipush 10, 2) := by decide +kernel
theorem dX11_pair_41 : decode cX11_pair 41 = .ok (.iload_n 1, 1) := by decide +kernel
theorem dX11_pair_42 : decode cX11_pair 42 = .ok (.imul, 1) := by decide +kernel
theorem dX11_pair_43 : decode cX11_pair 43 = .ok (.iload_n 2, 1) := by decide +kernel
theorem dX11_pair_44 : decode cX11_pair 44 = .ok (.iadd, 1) := by decide +kernel
theorem dX11_pair_45 : decode cX11_pair 45 = .ok (.aload_n 0, 1) := by decide +kernel
theorem dX11_pair_46 : decode cX11_pair 46 = .ok (.getfield 30, 3) := by decide +kernel
theorem dX11_pair_49 : decode cX11_pair 49 = .ok (.iload_n 1, 1) := by decide +kernel
theorem dX11_pair_50 : decode cX11_pair 50 = .ok (.iload_n 2, 1) := by decide +kernel
theorem dX11_pair_51 : decode cX11_pair 51 = .ok (.invokevirtual 178, 3) := by decide +kernel
theorem dX11_pair_54 : decode cX11_pair 54 = .ok (.invokevirtual 202, 3) := by decide +kernel
theorem dX11_pair_57 : decode cX11_pair 57 = .ok (.iinc 2 1, 3) := by decide +kernel
theorem dX11_pair_60 : decode cX11_pair 60 = .ok (.goto (-36), 3) := by decide +kernel
theorem dX11_pair_63 : decode cX11_pair 63 = .ok (.iinc 1 1, 3) := by decide +kernel
theorem dX11_pair_66 : decode cX11_pair 66 = .ok (.goto (-57), 3) := by decide +kernel
theorem dX11_pair_69 : decode cX11_pair 69 = .ok (.aload_n 0, 1) := by decide +kernel
theorem dX11_pair_70 : decode cX11_pair 70 = .ok (.invokevirtual 209, 3) := by decide +kernel
theorem dX11_pair_73 : decode cX11_pair 73 = .ok (.ireturn, 1) := by decide +kernel
theorem dX11_fix_0 : decode cX11_fix 0 = .ok (.iload_n 1, 1) := by decide +kernel
theorem dX11_fix_1 : decode cX11_fix 1 = .ok (.iconst 1, 1) := by decide +kernel
theorem dX11_fix_2 : decode cX11_fix 2 = .ok (.bipush 60, 2) := by decide +kernel
theorem dX11_fix_4 : decode cX11_fix 4 = .ok (.invokestatic 80, 3) := by decide +kernel
theorem dX11_fix_7 : decode cX11_fix 7 = .ok (.ifCond .ne 9, 3) := by decide +kernel
theorem dX11_fix_10 : decode cX11_fix 10 = .ok (.aload_n 0, 1) := by decide +kernel
theorem dX11_fix_11 : decode cX11_fix 11 = .ok (.iconst 0, 1) := by decide +kernel
theorem dX11_fix_12 : decode cX11_fix 12 = .ok (.invokevirtual 84, 3) := by decide +kernel
theorem dX11_fix_15 : decode cX11_fix 15 = .ok (.ireturn, 1) := by decide +kernel
theorem dX11_fix_16 : decode cX11_fix 16 = .ok (.aload_n 0, 1) := by decide +kernel
theorem dX11_fix_17 : decode cX11_fix 17 = .ok (.getfield 49, 3) := by decide +kernel
theorem dX11_fix_20 : decode cX11_fix 20 = .ok (.invokevirtual 199, 3) := by decide +kernel
theorem dX11_fix_23 : decode cX11_fix 23 = .ok (.iconst 0, 1) := by decide +kernel
theorem dX11_fix_24 : decode cX11_fix 24 = .ok (.istore_n 2, 1) := by decide +kernel
theorem dX11_fix_25 : decode cX11_fix 25 = .ok (.iload_n 2, 1) := by decide +kernel
theorem dX11_fix_26 : decode cX11_fix 26 = .ok (.aload_n 0, 1) := by decide +kernel
theorem dX11_fix_27 : decode cX11_fix 27 = .ok (.getfield 30, 3) := by decide +kernel
theorem dX11_fix_30 : decode cX11_fix 30 = .ok (.getfield 92, 3) := by decide +kernel
theorem dX11_fix_33 : decode cX11_fix 33 = .ok (.if_icmp .ge 66, 3) := by decide +kernel
theorem dX11_fix_36 : decode cX11_fix 36 = .ok (.aload_n 0, 1) := by decide +kernel
theorem dX11_fix_37 : decode cX11_fix 37 = .ok (.getfield 30, 3) := by decide +kernel
theorem dX11_fix_40 : decode cX11_fix 40 = .ok (.getfield 109, 3) := by decide +kernel
theorem dX11_fix_43 : decode cX11_fix 43 = .ok (.iload_n 2, 1) := by decide +kernel
theorem dX11_fix_44 : decode cX11_fix 44 = .ok (.iaload, 1) := by decide +kernel
theorem dX11_fix_45 : decode cX11_fix 45 = .ok (.ifCond .ne 48, 3) := by decide +kernel
theorem dX11_fix_48 : decode cX11_fix 48 = .ok (.aload_n 0, 1) := by decide +kernel
theorem dX11_fix_49 : decode cX11_fix 49 = .ok (.getfield 36, 3) := by decide +kernel
theorem dX11_fix_52 : decode cX11_fix 52 = .ok (.aload_n 0, 1) := by decide +kernel
theorem dX11_fix_53 : decode cX11_fix 53 = .ok (.getfield 30, 3) := by decide +kernel
theorem dX11_fix_56 : decode cX11_fix 56 = .ok (.invokevirtual 189, 3) := by decide +kernel
theorem dX11_fix_59 : decode cX11_fix 59 = .ok (.aload_n 0, 1) := by decide +kernel
theorem dX11_fix_60 : decode cX11_fix 60 = .ok (.getfield 36, 3) := by decide +kernel
theorem dX11_fix_63 : decode cX11_fix 63 = .ok (.getfield 109, 3) := by decide +kernel
theorem dX11_fix_66 : decode cX11_fix 66 = .ok (.iload_n 2, 1) := by decide +kernel
theorem dX11_fix_67 : decode cX11_fix 67 = .ok (.iconst 1, 1) := by decide +kernel
theorem dX11_fix_68 : decode cX11_fix 68 = .ok (.iastore, 1) := by decide +kernel
theorem dX11_fix_69 : decode cX11_fix 69 = .ok (.aload_n 0, 1) := by decide +kernel
theorem dX11_fix_70 : decode cX11_fix 70 = .ok (.getfield 36, 3) := by decide +kernel
theorem dX11_fix_73 : decode cX11_fix 73 = .ok (.iload_n 1, 1) := by decide +kernel
theorem dX11_fix_74 : decode cX11_fix 74 = .ok (.invokevirtual 182, 3) := by decide +kernel
theorem dX11_fix_77 : decode cX11_fix 77 = .ok (.aload_n 0, 1) := by decide +kernel
theorem dX11_fix_78 : decode cX11_fix 78 = .ok (.getfield 49, 3) := by decide +kernel
theorem dX11_fix_81 : decode cX11_fix 81 = .ok (.iload_n 2, 1) := by decide +kernel
theorem dX11_fix_82 : decode cX11_fix 82 = .ok (.aload_n 0, 1) := by decide +kernel
theorem dX11_fix_83 : decode cX11_fix 83 = .ok (.getfield 36, 3) := by decide +kernel
theorem dX11_fix_86 : decode cX11_fix 86 = .ok (.invokevirtual 138, 3) := by decide +kernel
theorem dX11_fix_89 : decode cX11_fix 89 = .ok (.ineg, 1) := by decide +kernel
theorem dX11_fix_90 : decode cX11_fix 90 = .ok (.invokevirtual 202, 3) := by decide +kernel
theorem dX11_fix_93 : decode cX11_fix 93 = .ok (.iinc 2 1, 3) := by decide +kernel
theorem dX11_fix_96 : decode cX11_fix 96 = .ok (.goto (-71), 3) := by decide +kernel
theorem dX11_fix_99 : decode cX11_fix 99 = .ok (.aload_n 0, 1) := by decide +kernel
theorem dX11_fix_100 : decode cX11_fix 100 = .ok (.invokevirtual 209, 3) := by decide +kernel
theorem dX11_fix_103 : decode cX11_fix 103 = .ok (.ireturn, 1) := by decide +kernel
theorem dX11_winner_0 : decode cX11_winner 0 = .ok (.iload_n 1, 1) := by decide +kernel
theorem dX11_winner_1 : decode cX11_winner 1 = .ok (.iconst 0, 1) := by decide +kernel
theorem dX11_winner_2 : decode cX11_winner 2 = .ok (.sipush 200, 3) := by decide +kernel
theorem dX11_winner_5 : decode cX11_winner 5 = .ok (.invokestatic 80, 3) := by decide +kernel
theorem dX11_winner_8 : decode cX11_winner 8 = .ok (.ifCond .ne 9, 3) := by decide +kernel
theorem dX11_winner_11 : decode cX11_winner 11 = .ok (.aload_n 0, 1) := by decide +kernel
theorem dX11_winner_12 : decode cX11_winner 12 = .ok (.iconst 0, 1) := by decide +kernel
theorem dX11_winner_13 : decode cX11_winner 13 = .ok (.invokevirtual 84, 3) := by decide +kernel
theorem dX11_winner_16 : decode cX11_winner 16 = .ok (.ireturn, 1) := by decide +kernel
theorem dX11_winner_17 : decode cX11_winner 17 = .ok (.aload_n 0, 1) := by decide +kernel
theorem dX11_winner_18 : decode cX11_winner 18 = .ok (.iload_n 1, 1) := by decide +kernel
theorem dX11_winner_19 : decode cX11_winner 19 = .ok (.invokevirtual 186, 3) := by decide +kernel
theorem dX11_winner_22 : decode cX11_winner 22 = .ok (.aload_n 0, 1) := by decide +kernel
theorem dX11_winner_23 : decode cX11_winner 23 = .ok (.getfield 49, 3) := by decide +kernel
theorem dX11_winner_26 : decode cX11_winner 26 = .ok (.invokevirtual 199, 3) := by decide +kernel
theorem dX11_winner_29 : decode cX11_winner 29 = .ok (.iconst 0, 1) := by decide +kernel
theorem dX11_winner_30 : decode cX11_winner 30 = .ok (.istore_n 2, 1) := by decide +kernel
theorem dX11_winner_31 : decode cX11_winner 31 = .ok (.iload_n 2, 1) := by decide +kernel
theorem dX11_winner_32 : decode cX11_winner 32 = .ok (.aload_n 0, 1) := by decide +kernel
theorem dX11_winner_33 : decode cX11_winner 33 = .ok (.getfield 36, 3) := by decide +kernel
theorem dX11_winner_36 : decode cX11_winner 36 = .ok (.getfield 141, 3) := by decide +kernel
theorem dX11_winner_39 : decode cX11_winner 39 = .ok (.if_icmp .ge 25, 3) := by decide +kernel
theorem dX11_winner_42 : decode cX11_winner 42 = .ok (.aload_n 0, 1) := by decide +kernel
theorem dX11_winner_43 : decode cX11_winner 43 = .ok (.getfield 49, 3) := by decide +kernel
theorem dX11_winner_46 : decode cX11_winner 46 = .ok (.iload_n 2, 1) := by decide +kernel
theorem dX11_winner_47 : decode cX11_winner 47 = .ok (.aload_n 0, 1) := by decide +kernel
theorem dX11_winner_48 : decode cX11_winner 48 = .ok (.getfield 36, 3) := by decide +kernel
theorem dX11_winner_51 : decode cX11_winner 51 = .ok (.iload_n 2, 1) := by decide +kernel
theorem dX11_winner_52 : decode cX11_winner 52 = .ok (.invokevirtual 175, 3) := by decide +kernel
theorem dX11_winner_55 : decode cX11_winner 55 = .ok (.invokevirtual 202, 3) := by decide +kernel
theorem dX11_winner_58 : decode cX11_winner 58 = .ok (.iinc 2 1, 3) := by decide +kernel
theorem dX11_winner_61 : decode cX11_winner 61 = .ok (.goto (-30), 3) := by decide +kernel
theorem dX11_winner_64 : decode cX11_winner 64 = .ok (.aload_n 0, 1) := by decide +kernel
theorem dX11_winner_65 : decode cX11_winner 65 = .ok (.invokevirtual 209, 3) := by decide +kernel
theorem dX11_winner_68 : decode cX11_winner 68 = .ok (.ireturn, 1) := by decide +kernel
theorem dX11_largest_0 : decode cX11_largest 0 = .ok (.iload_n 1, 1) := by decide +kernel
theorem dX11_largest_1 : decode cX11_largest 1 = .ok (.iconst 0, 1) := by decide +kernel
theorem dX11_largest_2 : decode cX11_largest 2 = .ok (.sipush 200, 3) := by decide +kernel
theorem dX11_largest_5 : decode cX11_largest 5 = .ok (.invokestatic 80, 3) := by decide +kernel
theorem dX11_largest_8 : decode cX11_largest 8 = .ok (.ifCond .ne 9, 3) := by decide +kernel
theorem dX11_largest_11 : decode cX11_largest 11 = .ok (.aload_n 0, 1) := by decide +kernel
theorem dX11_largest_12 : decode cX11_largest 12 = .ok (.iconst 0, 1) := by decide +kernel
theorem dX11_largest_13 : decode cX11_largest 13 = .ok (.invokevirtual 84, 3) := by decide +kernel
theorem dX11_largest_16 : decode cX11_largest 16 = .ok (.ireturn, 1) := by decide +kernel
theorem dX11_largest_17 : decode cX11_largest 17 = .ok (.aload_n 0, 1) := by decide +kernel
theorem dX11_largest_18 : decode cX11_largest 18 = .ok (.iload_n 1, 1) := by decide +kernel
theorem dX11_largest_19 : decode cX11_largest 19 = .ok (.invokevirtual 186, 3) := by decide +kernel
theorem dX11_largest_22 : decode cX11_largest 22 = .ok (.aload_n 0, 1) := by decide +kernel
theorem dX11_largest_23 : decode cX11_largest 23 = .ok (.getfield 49, 3) := by decide +kernel
theorem dX11_largest_26 : decode cX11_largest 26 = .ok (.invokevirtual 199, 3) := by decide +kernel
theorem dX11_largest_29 : decode cX11_largest 29 = .ok (.iconst 0, 1) := by decide +kernel
theorem dX11_largest_30 : decode cX11_largest 30 = .ok (.istore_n 2, 1) := by decide +kernel
theorem dX11_largest_31 : decode cX11_largest 31 = .ok (.iload_n 2, 1) := by decide +kernel
theorem dX11_largest_32 : decode cX11_largest 32 = .ok (.iconst 5, 1) := by decide +kernel
theorem dX11_largest_33 : decode cX11_largest 33 = .ok (.if_icmp .gt 28, 3) := by decide +kernel
theorem dX11_largest_36 : decode cX11_largest 36 = .ok (.aload_n 0, 1) := by decide +kernel
theorem dX11_largest_37 : decode cX11_largest 37 = .ok (.getfield 49, 3) := by decide +kernel
theorem dX11_largest_40 : decode cX11_largest 40 = .ok (.iload_n 2, 1) := by decide +kernel
theorem dX11_largest_41 : decode cX11_largest 41 = .ok (.aload_n 0, 1) := by decide +kernel
theorem dX11_largest_42 : decode cX11_largest 42 = .ok (.getfield 36, 3) := by decide +kernel
theorem dX11_largest_45 : decode cX11_largest 45 = .ok (.iload_n 2, 1) := by decide +kernel
theorem dX11_largest_46 : decode cX11_largest 46 = .ok (.invokevirtual 122, 3) := by decide +kernel
theorem dX11_largest_49 : decode cX11_largest 49 = .ok (.invokestatic 212, 3) := by decide +kernel
theorem dX11_largest_52 : decode cX11_largest 52 = .ok (.invokevirtual 202, 3) := by decide +kernel
theorem dX11_largest_55 : decode cX11_largest 55 = .ok (.iinc 2 1, 3) := by decide +kernel
theorem dX11_largest_58 : decode cX11_largest 58 = .ok (.goto (-27), 3) := by decide +kernel
theorem dX11_largest_61 : decode cX11_largest 61 = .ok (.aload_n 0, 1) := by decide +kernel
theorem dX11_largest_62 : decode cX11_largest 62 = .ok (.getfield 49, 3) := by decide +kernel
theorem dX11_largest_65 : decode cX11_largest 65 = .ok (.getfield 206, 3) := by decide +kernel
theorem dX11_largest_68 : decode cX11_largest 68 = .ok (.ireturn, 1) := by decide +kernel
theorem dX11_feed_0 : decode cX11_feed 0 = .ok (.iload_n 2, 1) := by decide +kernel
theorem dX11_feed_1 : decode cX11_feed 1 = .ok (.iconst 1, 1) := by decide +kernel
theorem dX11_feed_2 : decode cX11_feed 2 = .ok (.iconst 4, 1) := by decide +kernel
theorem dX11_feed_3 : decode cX11_feed 3 = .ok (.invokestatic 80, 3) := by decide +kernel
theorem dX11_feed_6 : decode cX11_feed 6 = .ok (.ifCond .ne 9, 3) := by decide +kernel
theorem dX11_feed_9 : decode cX11_feed 9 = .ok (.aload_n 0, 1) := by decide +kernel
theorem dX11_feed_10 : decode cX11_feed 10 = .ok (.iconst 0, 1) := by decide +kernel
theorem dX11_feed_11 : decode cX11_feed 11 = .ok (.invokevirtual 84, 3) := by decide +kernel
theorem dX11_feed_14 : decode cX11_feed 14 = .ok (.ireturn, 1) := by decide +kernel
theorem dX11_feed_15 : decode cX11_feed 15 = .ok (.aload_n 0, 1) := by decide +kernel
theorem dX11_feed_16 : decode cX11_feed 16 = .ok (.getfield 56, 3) := by decide +kernel
theorem dX11_feed_19 : decode cX11_feed 19 = .ok (.getfield 217, 3) := by decide +kernel
theorem dX11_feed_22 : decode cX11_feed 22 = .ok (.bipush 120, 2) := by decide +kernel
theorem dX11_feed_24 : decode cX11_feed 24 = .ok (.iload_n 2, 1) := by decide +kernel
theorem dX11_feed_25 : decode cX11_feed 25 = .ok (.isub, 1) := by decide +kernel
theorem dX11_feed_26 : decode cX11_feed 26 = .ok (.if_icmp .le 9, 3) := by decide +kernel
theorem dX11_feed_29 : decode cX11_feed 29 = .ok (.aload_n 0, 1) := by decide +kernel
theorem dX11_feed_30 : decode cX11_feed 30 = .ok (.iconst 1, 1) := by decide +kernel
theorem dX11_feed_31 : decode cX11_feed 31 = .ok (.invokevirtual 84, 3) := by decide +kernel
theorem dX11_feed_34 : decode cX11_feed 34 = .ok (.ireturn, 1) := by decide +kernel
theorem dX11_feed_35 : decode cX11_feed 35 = .ok (.iload_n 2, 1) := by decide +kernel
theorem dX11_feed_36 : decode cX11_feed 36 = .ok (.iconst 1, 1) := by decide +kernel
theorem dX11_feed_37 : decode cX11_feed 37 = .ok (.isub, 1) := by decide +kernel
theorem dX11_feed_38 : decode cX11_feed 38 = .ok (.istore_n 3, 1) := by decide +kernel
theorem dX11_feed_39 : decode cX11_feed 39 = .ok (.iload_n 3, 1) := by decide +kernel
theorem dX11_feed_40 : decode cX11_feed 40 = .ok (.ifCond .lt 26, 3) := by decide +kernel
theorem dX11_feed_43 : decode cX11_feed 43 = .ok (.aload_n 0, 1) := by decide +kernel
theorem dX11_feed_44 : decode cX11_feed 44 = .ok (.getfield 56, 3) := by decide +kernel
theorem dX11_feed_47 : decode cX11_feed 47 = .ok (.iload_n 1, 1) := by decide +kernel
theorem dX11_feed_48 : decode cX11_feed 48 = .ok (.bipush 8, 2) := by decide +kernel
theorem dX11_feed_50 : decode cX11_feed 50 = .ok (.iload_n 3, 1) := by decide +kernel
theorem dX11_feed_51 : decode cX11_feed 51 = .ok (.imul, 1) := by decide +kernel
theorem dX11_feed_52 : decode cX11_feed 52 = .ok (.ishr, 1) := by decide +kernel
theorem dX11_feed_53 : decode cX11_feed 53 = .ok (.sipush 255, 3) := by decide +kernel
theorem dX11_feed_56 : decode cX11_feed 56 = .ok (.iand, 1) := by decide +kernel
theorem dX11_feed_57 : decode cX11_feed 57 = .ok (.invokevirtual 220, 3) := by decide +kernel
theorem dX11_feed_60 : decode cX11_feed 60 = .ok (.iinc 3 (-1), 3) := by decide +kernel
theorem dX11_feed_63 : decode cX11_feed 63 = .ok (.goto (-24), 3) := by decide +kernel
theorem dX11_feed_66 : decode cX11_feed 66 = .ok (.aload_n 0, 1) := by decide +kernel
theorem dX11_feed_67 : decode cX11_feed 67 = .ok (.getfield 56, 3) := by decide +kernel
theorem dX11_feed_70 : decode cX11_feed 70 = .ok (.getfield 217, 3) := by decide +kernel
theorem dX11_feed_73 : decode cX11_feed 73 = .ok (.ireturn, 1) := by decide +kernel
theorem dX11_wipe_0 : decode cX11_wipe 0 = .ok (.aload_n 0, 1) := by decide +kernel
theorem dX11_wipe_1 : decode cX11_wipe 1 = .ok (.getfield 56, 3) := by decide +kernel
theorem dX11_wipe_4 : decode cX11_wipe 4 = .ok (.getfield 217, 3) := by decide +kernel
theorem dX11_wipe_7 : decode cX11_wipe 7 = .ok (.istore_n 1, 1) := by decide +kernel
theorem dX11_wipe_8 : decode cX11_wipe 8 = .ok (.aload_n 0, 1) := by decide +kernel
theorem dX11_wipe_9 : decode cX11_wipe 9 = .ok (.getfield 56, 3) := by decide +kernel
theorem dX11_wipe_12 : decode cX11_wipe 12 = .ok (.iconst 0, 1) := by decide +kernel
theorem dX11_wipe_13 : decode cX11_wipe 13 = .ok (.putfield 217, 3) := by decide +kernel
theorem dX11_wipe_16 : decode cX11_wipe 16 = .ok (.iload_n 1, 1) := by decide +kernel
theorem dX11_wipe_17 : decode cX11_wipe 17 = .ok (.ireturn, 1) := by decide +kernel
theorem dX11_wall_0 : decode cX11_wall 0 = .ok (.aload_n 0, 1) := by decide +kernel
theorem dX11_wall_1 : decode cX11_wall 1 = .ok (.getfield 36, 3) := by decide +kernel
theorem dX11_wall_4 : decode cX11_wall 4 = .ok (.aload_n 0, 1) := by decide +kernel
theorem dX11_wall_5 : decode cX11_wall 5 = .ok (.getfield 30, 3) := by decide +kernel
theorem dX11_wall_8 : decode cX11_wall 8 = .ok (.invokevirtual 189, 3) := by decide +kernel
theorem dX11_wall_11 : decode cX11_wall 11 = .ok (.aload_n 0, 1) := by decide +kernel
theorem dX11_wall_12 : decode cX11_wall 12 = .ok (.getfield 65, 3) := by decide +kernel
theorem dX11_wall_15 : decode cX11_wall 15 = .ok (.aload_n 0, 1) := by decide +kernel
theorem dX11_wall_16 : decode cX11_wall 16 = .ok (.getfield 36, 3) := by decide +kernel
theorem dX11_wall_19 : decode cX11_wall 19 = .ok (.invokevirtual 223, 3) := by decide +kernel
theorem dX11_wall_22 : decode cX11_wall 22 = .ok (.istore_n 1, 1) := by decide +kernel
theorem dX11_wall_23 : decode cX11_wall 23 = .ok (.iload_n 1, 1) := by decide +kernel
theorem dX11_wall_24 : decode cX11_wall 24 = .ok (.ifCond .lt 14, 3) := by decide +kernel
theorem dX11_wall_27 : decode cX11_wall 27 = .ok (.aload_n 0, 1) := by decide +kernel
theorem dX11_wall_28 : decode cX11_wall 28 = .ok (.getfield 30, 3) := by decide +kernel
theorem dX11_wall_31 : decode cX11_wall 31 = .ok (.aload_n 0, 1) := by decide +kernel
theorem dX11_wall_32 : decode cX11_wall 32 = .ok (.getfield 36, 3) := by decide +kernel
theorem dX11_wall_35 : decode cX11_wall 35 = .ok (.invokevirtual 189, 3) := by decide +kernel
theorem dX11_wall_38 : decode cX11_wall 38 = .ok (.aload_n 0, 1) := by decide +kernel
theorem dX11_wall_39 : decode cX11_wall 39 = .ok (.getfield 56, 3) := by decide +kernel
theorem dX11_wall_42 : decode cX11_wall 42 = .ok (.iconst 0, 1) := by decide +kernel
theorem dX11_wall_43 : decode cX11_wall 43 = .ok (.putfield 217, 3) := by decide +kernel
theorem dX11_wall_46 : decode cX11_wall 46 = .ok (.iload_n 1, 1) := by decide +kernel
theorem dX11_wall_47 : decode cX11_wall 47 = .ok (.ireturn, 1) := by decide +kernel
theorem dX11_sheet_0 : decode cX11_sheet 0 = .ok (.iload_n 1, 1) := by decide +kernel
theorem dX11_sheet_1 : decode cX11_sheet 1 = .ok (.invokestatic 227, 3) := by decide +kernel
theorem dX11_sheet_4 : decode cX11_sheet 4 = .ok (.ifCond .ne 25, 3) := by decide +kernel
theorem dX11_sheet_7 : decode cX11_sheet 7 = .ok (.iload_n 2, 1) := by decide +kernel
theorem dX11_sheet_8 : decode cX11_sheet 8 = .ok (.ifCond .eq 27, 3) := by decide +kernel
theorem dX11_sheet_11 : decode cX11_sheet 11 = .ok (.iload_n 2, 1) := by decide +kernel
theorem dX11_sheet_12 : decode cX11_sheet 12 = .ok (.bipush 8, 2) := by decide +kernel
theorem dX11_sheet_14 : decode cX11_sheet 14 = .ok (.if_icmp .eq 21, 3) := by decide +kernel
theorem dX11_sheet_17 : decode cX11_sheet 17 = .ok (.iload_n 2, 1) := by decide +kernel
theorem dX11_sheet_18 : decode cX11_sheet 18 = .ok (.bipush 16, 2) := by decide +kernel
theorem dX11_sheet_20 : decode cX11_sheet 20 = .ok (.if_icmp .eq 15, 3) := by decide +kernel
theorem dX11_sheet_23 : decode cX11_sheet 23 = .ok (.iload_n 2, 1) := by decide +kernel
theorem dX11_sheet_24 : decode cX11_sheet 24 = .ok (.bipush 64, 2) := by decide +kernel
theorem dX11_sheet_26 : decode cX11_sheet 26 = .ok (.if_icmp .eq 9, 3) := by decide +kernel
theorem dX11_sheet_29 : decode cX11_sheet 29 = .ok (.aload_n 0, 1) := by decide +kernel
theorem dX11_sheet_30 : decode cX11_sheet 30 = .ok (.iconst 0, 1) := by decide +kernel
theorem dX11_sheet_31 : decode cX11_sheet 31 = .ok (.invokevirtual 84, 3) := by decide +kernel
theorem dX11_sheet_34 : decode cX11_sheet 34 = .ok (.ireturn, 1) := by decide +kernel
theorem dX11_sheet_35 : decode cX11_sheet 35 = .ok (.iload_n 3, 1) := by decide +kernel
theorem dX11_sheet_36 : decode cX11_sheet 36 = .ok (.ifCond .ge 10, 3) := by decide +kernel
theorem dX11_sheet_39 : decode cX11_sheet 39 = .ok (.aload_n 0, 1) := by decide +kernel
theorem dX11_sheet_40 : decode cX11_sheet 40 = .ok (.bipush 6, 2) := by decide +kernel
theorem dX11_sheet_42 : decode cX11_sheet 42 = .ok (.invokevirtual 84, 3) := by decide +kernel
theorem dX11_sheet_45 : decode cX11_sheet 45 = .ok (.ireturn, 1) := by decide +kernel
theorem dX11_sheet_46 : decode cX11_sheet 46 = .ok (.iload_n 3, 1) := by decide +kernel
theorem dX11_sheet_47 : decode cX11_sheet 47 = .ok (.bipush 40, 2) := by decide +kernel
theorem dX11_sheet_49 : decode cX11_sheet 49 = .ok (.if_icmp .le 9, 3) := by decide +kernel
theorem dX11_sheet_52 : decode cX11_sheet 52 = .ok (.aload_n 0, 1) := by decide +kernel
theorem dX11_sheet_53 : decode cX11_sheet 53 = .ok (.iconst 0, 1) := by decide +kernel
theorem dX11_sheet_54 : decode cX11_sheet 54 = .ok (.invokevirtual 84, 3) := by decide +kernel
theorem dX11_sheet_57 : decode cX11_sheet 57 = .ok (.ireturn, 1) := by decide +kernel
theorem dX11_sheet_58 : decode cX11_sheet 58 = .ok (.aload_n 0, 1) := by decide +kernel
theorem dX11_sheet_59 : decode cX11_sheet 59 = .ok (.getfield 71, 3) := by decide +kernel
theorem dX11_sheet_62 : decode cX11_sheet 62 = .ok (.iload_n 1, 1) := by decide +kernel
theorem dX11_sheet_63 : decode cX11_sheet 63 = .ok (.aaload, 1) := by decide +kernel
theorem dX11_sheet_64 : decode cX11_sheet 64 = .ok (.iload_n 2, 1) := by decide +kernel
theorem dX11_sheet_65 : decode cX11_sheet 65 = .ok (.iload_n 3, 1) := by decide +kernel
theorem dX11_sheet_66 : decode cX11_sheet 66 = .ok (.invokevirtual 230, 3) := by decide +kernel
theorem dX11_sheet_69 : decode cX11_sheet 69 = .ok (.aload_n 0, 1) := by decide +kernel
theorem dX11_sheet_70 : decode cX11_sheet 70 = .ok (.getfield 71, 3) := by decide +kernel
theorem dX11_sheet_73 : decode cX11_sheet 73 = .ok (.iload_n 1, 1) := by decide +kernel
theorem dX11_sheet_74 : decode cX11_sheet 74 = .ok (.aaload, 1) := by decide +kernel
theorem dX11_sheet_75 : decode cX11_sheet 75 = .ok (.getfield 233, 3) := by decide +kernel
theorem dX11_sheet_78 : decode cX11_sheet 78 = .ok (.ireturn, 1) := by decide +kernel
theorem dX11_write_0 : decode cX11_write 0 = .ok (.iload_n 1, 1) := by decide +kernel
theorem dX11_write_1 : decode cX11_write 1 = .ok (.invokestatic 227, 3) := by decide +kernel
theorem dX11_write_4 : decode cX11_write 4 = .ok (.ifCond .eq 10, 3) := by decide +kernel
theorem dX11_write_7 : decode cX11_write 7 = .ok (.aload_n 0, 1) := by decide +kernel
theorem dX11_write_8 : decode cX11_write 8 = .ok (.iconst 0, 1) := by decide +kernel
theorem dX11_write_9 : decode cX11_write 9 = .ok (.invokevirtual 84, 3) := by decide +kernel
theorem dX11_write_12 : decode cX11_write 12 = .ok (.i2l, 1) := by decide +kernel
theorem dX11_write_13 : decode cX11_write 13 = .ok (.lreturn, 1) := by decide +kernel
theorem dX11_write_14 : decode cX11_write 14 = .ok (.aload_n 0, 1) := by decide +kernel
theorem dX11_write_15 : decode cX11_write 15 = .ok (.getfield 71, 3) := by decide +kernel
theorem dX11_write_18 : decode cX11_write 18 = .ok (.iload_n 1, 1) := by decide +kernel
theorem dX11_write_19 : decode cX11_write 19 = .ok (.aaload, 1) := by decide +kernel
theorem dX11_write_20 : decode cX11_write 20 = .ok (.invokevirtual 236, 3) := by decide +kernel
theorem dX11_write_23 : decode cX11_write 23 = .ok (.ifCond .eq 10, 3) := by decide +kernel
theorem dX11_write_26 : decode cX11_write 26 = .ok (.aload_n 0, 1) := by decide +kernel
theorem dX11_write_27 : decode cX11_write 27 = .ok (.iconst 5, 1) := by decide +kernel
theorem dX11_write_28 : decode cX11_write 28 = .ok (.invokevirtual 84, 3) := by decide +kernel
theorem dX11_write_31 : decode cX11_write 31 = .ok (.i2l, 1) := by decide +kernel
theorem dX11_write_32 : decode cX11_write 32 = .ok (.lreturn, 1) := by decide +kernel
theorem dX11_write_33 : decode cX11_write 33 = .ok (.iload_n 2, 1) := by decide +kernel
theorem dX11_write_34 : decode cX11_write 34 = .ok (.iconst 0, 1) := by decide +kernel
theorem dX11_write_35 : decode cX11_write 35 = .ok (.aload_n 0, 1) := by decide +kernel
theorem dX11_write_36 : decode cX11_write 36 = .ok (.getfield 71, 3) := by decide +kernel
theorem dX11_write_39 : decode cX11_write 39 = .ok (.iload_n 1, 1) := by decide +kernel
theorem dX11_write_40 : decode cX11_write 40 = .ok (.aaload, 1) := by decide +kernel
theorem dX11_write_41 : decode cX11_write 41 = .ok (.getfield 233, 3) := by decide +kernel
theorem dX11_write_44 : decode cX11_write 44 = .ok (.iconst 1, 1) := by decide +kernel
theorem dX11_write_45 : decode cX11_write 45 = .ok (.isub, 1) := by decide +kernel
theorem dX11_write_46 : decode cX11_write 46 = .ok (.invokestatic 80, 3) := by decide +kernel
theorem dX11_write_49 : decode cX11_write 49 = .ok (.ifCond .ne 10, 3) := by decide +kernel
theorem dX11_write_52 : decode cX11_write 52 = .ok (.aload_n 0, 1) := by decide +kernel
theorem dX11_write_53 : decode cX11_write 53 = .ok (.iconst 0, 1) := by decide +kernel
theorem dX11_write_54 : decode cX11_write 54 = .ok (.invokevirtual 84, 3) := by decide +kernel
theorem dX11_write_57 : decode cX11_write 57 = .ok (.i2l, 1) := by decide +kernel
theorem dX11_write_58 : decode cX11_write 58 = .ok (.lreturn, 1) := by decide +kernel
theorem dX11_write_59 : decode cX11_write 59 = .ok (.aload_n 0, 1) := by decide +kernel
theorem dX11_write_60 : decode cX11_write 60 = .ok (.getfield 71, 3) := by decide +kernel
theorem dX11_write_63 : decode cX11_write 63 = .ok (.iload_n 1, 1) := by decide +kernel
theorem dX11_write_64 : decode cX11_write 64 = .ok (.aaload, 1) := by decide +kernel
theorem dX11_write_65 : decode cX11_write 65 = .ok (.getfield 240, 3) := by decide +kernel
theorem dX11_write_68 : decode cX11_write 68 = .ok (.iload_n 2, 1) := by decide +kernel
theorem dX11_write_69 : decode cX11_write 69 = .ok (.laload, 1) := by decide +kernel
theorem dX11_write_70 : decode cX11_write 70 = .ok (.lstore 5, 2) := by decide +kernel
theorem dX11_write_72 : decode cX11_write 72 = .ok (.aload_n 0, 1) := by decide +kernel
theorem dX11_write_73 : decode cX11_write 73 = .ok (.getfield 71, 3) := by decide +kernel
theorem dX11_write_76 : decode cX11_write 76 = .ok (.iload_n 1, 1) := by decide +kernel
theorem dX11_write_77 : decode cX11_write 77 = .ok (.aaload, 1) := by decide +kernel
theorem dX11_write_78 : decode cX11_write 78 = .ok (.iload_n 2, 1) := by decide +kernel
theorem dX11_write_79 : decode cX11_write 79 = .ok (.lload_n 3, 1) := by decide +kernel
theorem dX11_write_80 : decode cX11_write 80 = .ok (.invokevirtual 244, 3) := by decide +kernel
theorem dX11_write_83 : decode cX11_write 83 = .ok (.lload 5, 2) := by decide +kernel
theorem dX11_write_85 : decode cX11_write 85 = .ok (.lreturn, 1) := by decide +kernel
theorem dX11_copy_0 : decode cX11_copy 0 = .ok (.iload_n 1, 1) := by decide +kernel
theorem dX11_copy_1 : decode cX11_copy 1 = .ok (.invokestatic 227, 3) := by decide +kernel
theorem dX11_copy_4 : decode cX11_copy 4 = .ok (.ifCond .ne 10, 3) := by decide +kernel
theorem dX11_copy_7 : decode cX11_copy 7 = .ok (.iload_n 3, 1) := by decide +kernel
theorem dX11_copy_8 : decode cX11_copy 8 = .ok (.invokestatic 227, 3) := by decide +kernel
theorem dX11_copy_11 : decode cX11_copy 11 = .ok (.ifCond .eq 9, 3) := by decide +kernel
theorem dX11_copy_14 : decode cX11_copy 14 = .ok (.aload_n 0, 1) := by decide +kernel
theorem dX11_copy_15 : decode cX11_copy 15 = .ok (.iconst 0, 1) := by decide +kernel
theorem dX11_copy_16 : decode cX11_copy 16 = .ok (.invokevirtual 84, 3) := by decide +kernel
theorem dX11_copy_19 : decode cX11_copy 19 = .ok (.ireturn, 1) := by decide +kernel
theorem dX11_copy_20 : decode cX11_copy 20 = .ok (.aload_n 0, 1) := by decide +kernel
theorem dX11_copy_21 : decode cX11_copy 21 = .ok (.getfield 71, 3) := by decide +kernel
theorem dX11_copy_24 : decode cX11_copy 24 = .ok (.iload_n 1, 1) := by decide +kernel
theorem dX11_copy_25 : decode cX11_copy 25 = .ok (.aaload, 1) := by decide +kernel
theorem dX11_copy_26 : decode cX11_copy 26 = .ok (.invokevirtual 236, 3) := by decide +kernel
theorem dX11_copy_29 : decode cX11_copy 29 = .ok (.ifCond .ne 15, 3) := by decide +kernel
theorem dX11_copy_32 : decode cX11_copy 32 = .ok (.aload_n 0, 1) := by decide +kernel
theorem dX11_copy_33 : decode cX11_copy 33 = .ok (.getfield 71, 3) := by decide +kernel
theorem dX11_copy_36 : decode cX11_copy 36 = .ok (.iload_n 3, 1) := by decide +kernel
theorem dX11_copy_37 : decode cX11_copy 37 = .ok (.aaload, 1) := by decide +kernel
theorem dX11_copy_38 : decode cX11_copy 38 = .ok (.invokevirtual 236, 3) := by decide +kernel
theorem dX11_copy_41 : decode cX11_copy 41 = .ok (.ifCond .eq 9, 3) := by decide +kernel
theorem dX11_copy_44 : decode cX11_copy 44 = .ok (.aload_n 0, 1) := by decide +kernel
theorem dX11_copy_45 : decode cX11_copy 45 = .ok (.iconst 5, 1) := by decide +kernel
theorem dX11_copy_46 : decode cX11_copy 46 = .ok (.invokevirtual 84, 3) := by decide +kernel
theorem dX11_copy_49 : decode cX11_copy 49 = .ok (.ireturn, 1) := by decide +kernel
theorem dX11_copy_50 : decode cX11_copy 50 = .ok (.aload_n 0, 1) := by decide +kernel
theorem dX11_copy_51 : decode cX11_copy 51 = .ok (.getfield 71, 3) := by decide +kernel
theorem dX11_copy_54 : decode cX11_copy 54 = .ok (.iload_n 1, 1) := by decide +kernel
theorem dX11_copy_55 : decode cX11_copy 55 = .ok (.aaload, 1) := by decide +kernel
theorem dX11_copy_56 : decode cX11_copy 56 = .ok (.getfield 247, 3) := by decide +kernel
theorem dX11_copy_59 : decode cX11_copy 59 = .ok (.aload_n 0, 1) := by decide +kernel
theorem dX11_copy_60 : decode cX11_copy 60 = .ok (.getfield 71, 3) := by decide +kernel
theorem dX11_copy_63 : decode cX11_copy 63 = .ok (.iload_n 3, 1) := by decide +kernel
theorem dX11_copy_64 : decode cX11_copy 64 = .ok (.aaload, 1) := by decide +kernel
theorem dX11_copy_65 : decode cX11_copy 65 = .ok (.getfield 247, 3) := by decide +kernel
theorem dX11_copy_68 : decode cX11_copy 68 = .ok (.if_icmp .eq 9, 3) := by decide +kernel
theorem dX11_copy_71 : decode cX11_copy 71 = .ok (.aload_n 0, 1) := by decide +kernel
theorem dX11_copy_72 : decode cX11_copy 72 = .ok (.iconst 2, 1) := by decide +kernel
theorem dX11_copy_73 : decode cX11_copy 73 = .ok (.invokevirtual 84, 3) := by decide +kernel
theorem dX11_copy_76 : decode cX11_copy 76 = .ok (.ireturn, 1) := by decide +kernel
theorem dX11_copy_77 : decode cX11_copy 77 = .ok (.aload_n 0, 1) := by decide +kernel
theorem dX11_copy_78 : decode cX11_copy 78 = .ok (.getfield 71, 3) := by decide +kernel
theorem dX11_copy_81 : decode cX11_copy 81 = .ok (.iload_n 1, 1) := by decide +kernel
theorem dX11_copy_82 : decode cX11_copy 82 = .ok (.aaload, 1) := by decide +kernel
theorem dX11_copy_83 : decode cX11_copy 83 = .ok (.iload_n 2, 1) := by decide +kernel
theorem dX11_copy_84 : decode cX11_copy 84 = .ok (.iload 5, 2) := by decide +kernel
theorem dX11_copy_86 : decode cX11_copy 86 = .ok (.invokevirtual 250, 3) := by decide +kernel
theorem dX11_copy_89 : decode cX11_copy 89 = .ok (.ifCond .eq 19, 3) := by decide +kernel
theorem dX11_copy_92 : decode cX11_copy 92 = .ok (.aload_n 0, 1) := by decide +kernel
theorem dX11_copy_93 : decode cX11_copy 93 = .ok (.getfield 71, 3) := by decide +kernel
theorem dX11_copy_96 : decode cX11_copy 96 = .ok (.iload_n 3, 1) := by decide +kernel
theorem dX11_copy_97 : decode cX11_copy 97 = .ok (.aaload, 1) := by decide +kernel
theorem dX11_copy_98 : decode cX11_copy 98 = .ok (.iload 4, 2) := by decide +kernel
theorem dX11_copy_100 : decode cX11_copy 100 = .ok (.iload 5, 2) := by decide +kernel
theorem dX11_copy_102 : decode cX11_copy 102 = .ok (.invokevirtual 250, 3) := by decide +kernel
theorem dX11_copy_105 : decode cX11_copy 105 = .ok (.ifCond .ne 9, 3) := by decide +kernel
theorem dX11_copy_108 : decode cX11_copy 108 = .ok (.aload_n 0, 1) := by decide +kernel
theorem dX11_copy_109 : decode cX11_copy 109 = .ok (.iconst 0, 1) := by decide +kernel
theorem dX11_copy_110 : decode cX11_copy 110 = .ok (.invokevirtual 84, 3) := by decide +kernel
theorem dX11_copy_113 : decode cX11_copy 113 = .ok (.ireturn, 1) := by decide +kernel
theorem dX11_copy_114 : decode cX11_copy 114 = .ok (.aload_n 0, 1) := by decide +kernel
theorem dX11_copy_115 : decode cX11_copy 115 = .ok (.getfield 71, 3) := by decide +kernel
theorem dX11_copy_118 : decode cX11_copy 118 = .ok (.iload_n 1, 1) := by decide +kernel
theorem dX11_copy_119 : decode cX11_copy 119 = .ok (.aaload, 1) := by decide +kernel
theorem dX11_copy_120 : decode cX11_copy 120 = .ok (.getfield 240, 3) := by decide +kernel
theorem dX11_copy_123 : decode cX11_copy 123 = .ok (.iload_n 2, 1) := by decide +kernel
theorem dX11_copy_124 : decode cX11_copy 124 = .ok (.aload_n 0, 1) := by decide +kernel
theorem dX11_copy_125 : decode cX11_copy 125 = .ok (.getfield 71, 3) := by decide +kernel
theorem dX11_copy_128 : decode cX11_copy 128 = .ok (.iload_n 3, 1) := by decide +kernel
theorem dX11_copy_129 : decode cX11_copy 129 = .ok (.aaload, 1) := by decide +kernel
theorem dX11_copy_130 : decode cX11_copy 130 = .ok (.getfield 240, 3) := by decide +kernel
theorem dX11_copy_133 : decode cX11_copy 133 = .ok (.iload 4, 2) := by decide +kernel
theorem dX11_copy_135 : decode cX11_copy 135 = .ok (.iload 5, 2) := by decide +kernel
theorem dX11_copy_137 : decode cX11_copy 137 = .ok (.invokestatic 253, 3) := by decide +kernel
theorem dX11_copy_140 : decode cX11_copy 140 = .ok (.iload 5, 2) := by decide +kernel
theorem dX11_copy_142 : decode cX11_copy 142 = .ok (.ireturn, 1) := by decide +kernel
theorem dX11_lays_0 : decode cX11_lays 0 = .ok (.iload_n 1, 1) := by decide +kernel
theorem dX11_lays_1 : decode cX11_lays 1 = .ok (.invokestatic 227, 3) := by decide +kernel
theorem dX11_lays_4 : decode cX11_lays 4 = .ok (.ifCond .eq 9, 3) := by decide +kernel
theorem dX11_lays_7 : decode cX11_lays 7 = .ok (.aload_n 0, 1) := by decide +kernel
theorem dX11_lays_8 : decode cX11_lays 8 = .ok (.iconst 0, 1) := by decide +kernel
theorem dX11_lays_9 : decode cX11_lays 9 = .ok (.invokevirtual 84, 3) := by decide +kernel
theorem dX11_lays_12 : decode cX11_lays 12 = .ok (.ireturn, 1) := by decide +kernel
theorem dX11_lays_13 : decode cX11_lays 13 = .ok (.aload_n 0, 1) := by decide +kernel
theorem dX11_lays_14 : decode cX11_lays 14 = .ok (.getfield 71, 3) := by decide +kernel
theorem dX11_lays_17 : decode cX11_lays 17 = .ok (.iload_n 1, 1) := by decide +kernel
theorem dX11_lays_18 : decode cX11_lays 18 = .ok (.aaload, 1) := by decide +kernel
theorem dX11_lays_19 : decode cX11_lays 19 = .ok (.invokevirtual 236, 3) := by decide +kernel
theorem dX11_lays_22 : decode cX11_lays 22 = .ok (.ifCond .eq 9, 3) := by decide +kernel
theorem dX11_lays_25 : decode cX11_lays 25 = .ok (.aload_n 0, 1) := by decide +kernel
theorem dX11_lays_26 : decode cX11_lays 26 = .ok (.iconst 5, 1) := by decide +kernel
theorem dX11_lays_27 : decode cX11_lays 27 = .ok (.invokevirtual 84, 3) := by decide +kernel
theorem dX11_lays_30 : decode cX11_lays 30 = .ok (.ireturn, 1) := by decide +kernel
theorem dX11_lays_31 : decode cX11_lays 31 = .ok (.aload_n 0, 1) := by decide +kernel
theorem dX11_lays_32 : decode cX11_lays 32 = .ok (.iload_n 2, 1) := by decide +kernel
theorem dX11_lays_33 : decode cX11_lays 33 = .ok (.invokevirtual 147, 3) := by decide +kernel
theorem dX11_lays_36 : decode cX11_lays 36 = .ok (.ifCond .eq 9, 3) := by decide +kernel
theorem dX11_lays_39 : decode cX11_lays 39 = .ok (.aload_n 0, 1) := by decide +kernel
theorem dX11_lays_40 : decode cX11_lays 40 = .ok (.iconst 0, 1) := by decide +kernel
theorem dX11_lays_41 : decode cX11_lays 41 = .ok (.invokevirtual 84, 3) := by decide +kernel
theorem dX11_lays_44 : decode cX11_lays 44 = .ok (.ireturn, 1) := by decide +kernel
theorem dX11_lays_45 : decode cX11_lays 45 = .ok (.iconst 0, 1) := by decide +kernel
theorem dX11_lays_46 : decode cX11_lays 46 = .ok (.istore_n 3, 1) := by decide +kernel
theorem dX11_lays_47 : decode cX11_lays 47 = .ok (.iconst 0, 1) := by decide +kernel
theorem dX11_lays_48 : decode cX11_lays 48 = .ok (.istore 4, 2) := by decide +kernel
theorem dX11_lays_50 : decode cX11_lays 50 = .ok (.iload 4, 2) := by decide +kernel
theorem dX11_lays_52 : decode cX11_lays 52 = .ok (.aload_n 0, 1) := by decide +kernel
theorem dX11_lays_53 : decode cX11_lays 53 = .ok (.getfield 71, 3) := by decide +kernel
theorem dX11_lays_56 : decode cX11_lays 56 = .ok (.iload_n 1, 1) := by decide +kernel
theorem dX11_lays_57 : decode cX11_lays 57 = .ok (.aaload, 1) := by decide +kernel
theorem dX11_lays_58 : decode cX11_lays 58 = .ok (.getfield 233, 3) := by decide +kernel
theorem dX11_lays_61 : decode cX11_lays 61 = .ok (.if_icmp .ge 66, 3) := by decide +kernel
theorem dX11_lays_64 : decode cX11_lays 64 = .ok (.iload 4, 2) := by decide +kernel
theorem dX11_lays_66 : decode cX11_lays 66 = .ok (.bipush 10, 2) := by decide +kernel
theorem dX11_lays_68 : decode cX11_lays 68 = .ok (.if_icmp .ge 59, 3) := by decide +kernel
theorem dX11_lays_71 : decode cX11_lays 71 = .ok (.aload_n 0, 1) := by decide +kernel
theorem dX11_lays_72 : decode cX11_lays 72 = .ok (.getfield 71, 3) := by decide +kernel
theorem dX11_lays_75 : decode cX11_lays 75 = .ok (.iload_n 1, 1) := by decide +kernel
theorem dX11_lays_76 : decode cX11_lays 76 = .ok (.aaload, 1) := by decide +kernel
theorem dX11_lays_77 : decode cX11_lays 77 = .ok (.getfield 240, 3) := by decide +kernel
theorem dX11_lays_80 : decode cX11_lays 80 = .ok (.iload 4, 2) := by decide +kernel
theorem dX11_lays_82 : decode cX11_lays 82 = .ok (.laload, 1) := by decide +kernel
theorem dX11_lays_83 : decode cX11_lays 83 = .ok (.lstore 5, 2) := by decide +kernel
theorem dX11_lays_85 : decode cX11_lays 85 = .ok (.lload 5, 2) := by decide +kernel
theorem dX11_lays_87 : decode cX11_lays 87 = .ok (.lconst 0, 1) := by decide +kernel
theorem dX11_lays_88 : decode cX11_lays 88 = .ok (.lcmp, 1) := by decide +kernel
theorem dX11_lays_89 : decode cX11_lays 89 = .ok (.ifCond .lt 32, 3) := by decide +kernel
theorem dX11_lays_92 : decode cX11_lays 92 = .ok (.lload 5, 2) := by decide +kernel
theorem dX11_lays_94 : decode cX11_lays 94 = .ok (.ldc2_w 259, 3) := by decide +kernel
theorem dX11_lays_97 : decode cX11_lays 97 = .ok (.lcmp, 1) := by decide +kernel
theorem dX11_lays_98 : decode cX11_lays 98 = .ok (.ifCond .gt 23, 3) := by decide +kernel
theorem dX11_lays_101 : decode cX11_lays 101 = .ok (.aload_n 0, 1) := by decide +kernel
theorem dX11_lays_102 : decode cX11_lays 102 = .ok (.getfield 30, 3) := by decide +kernel
theorem dX11_lays_105 : decode cX11_lays 105 = .ok (.getfield 165, 3) := by decide +kernel
theorem dX11_lays_108 : decode cX11_lays 108 = .ok (.iload_n 2, 1) := by decide +kernel
theorem dX11_lays_109 : decode cX11_lays 109 = .ok (.iload 4, 2) := by decide +kernel
theorem dX11_lays_111 : decode cX11_lays 111 = .ok (.invokestatic 168, 3) := by decide +kernel
theorem dX11_lays_114 : decode cX11_lays 114 = .ok (.lload 5, 2) := by decide +kernel
theorem dX11_lays_116 : decode cX11_lays 116 = .ok (.l2i, 1) := by decide +kernel
theorem dX11_lays_117 : decode cX11_lays 117 = .ok (.iastore, 1) := by decide +kernel
theorem dX11_lays_118 : decode cX11_lays 118 = .ok (.iinc 3 1, 3) := by decide +kernel
theorem dX11_lays_121 : decode cX11_lays 121 = .ok (.iinc 4 1, 3) := by decide +kernel
theorem dX11_lays_124 : decode cX11_lays 124 = .ok (.goto (-74), 3) := by decide +kernel
theorem dX11_lays_127 : decode cX11_lays 127 = .ok (.iload_n 3, 1) := by decide +kernel
theorem dX11_lays_128 : decode cX11_lays 128 = .ok (.ireturn, 1) := by decide +kernel
theorem dX11_book_0 : decode cX11_book 0 = .ok (.iload_n 1, 1) := by decide +kernel
theorem dX11_book_1 : decode cX11_book 1 = .ok (.invokestatic 227, 3) := by decide +kernel
theorem dX11_book_4 : decode cX11_book 4 = .ok (.ifCond .eq 9, 3) := by decide +kernel
theorem dX11_book_7 : decode cX11_book 7 = .ok (.aload_n 0, 1) := by decide +kernel
theorem dX11_book_8 : decode cX11_book 8 = .ok (.iconst 0, 1) := by decide +kernel
theorem dX11_book_9 : decode cX11_book 9 = .ok (.invokevirtual 84, 3) := by decide +kernel
theorem dX11_book_12 : decode cX11_book 12 = .ok (.ireturn, 1) := by decide +kernel
theorem dX11_book_13 : decode cX11_book 13 = .ok (.aload_n 0, 1) := by decide +kernel
theorem dX11_book_14 : decode cX11_book 14 = .ok (.getfield 71, 3) := by decide +kernel
theorem dX11_book_17 : decode cX11_book 17 = .ok (.iload_n 1, 1) := by decide +kernel
theorem dX11_book_18 : decode cX11_book 18 = .ok (.aaload, 1) := by decide +kernel
theorem dX11_book_19 : decode cX11_book 19 = .ok (.invokevirtual 236, 3) := by decide +kernel
theorem dX11_book_22 : decode cX11_book 22 = .ok (.ifCond .eq 9, 3) := by decide +kernel
theorem dX11_book_25 : decode cX11_book 25 = .ok (.aload_n 0, 1) := by decide +kernel
theorem dX11_book_26 : decode cX11_book 26 = .ok (.iconst 5, 1) := by decide +kernel
theorem dX11_book_27 : decode cX11_book 27 = .ok (.invokevirtual 84, 3) := by decide +kernel
theorem dX11_book_30 : decode cX11_book 30 = .ok (.ireturn, 1) := by decide +kernel
theorem dX11_book_31 : decode cX11_book 31 = .ok (.aload_n 0, 1) := by decide +kernel
theorem dX11_book_32 : decode cX11_book 32 = .ok (.iload_n 2, 1) := by decide +kernel
theorem dX11_book_33 : decode cX11_book 33 = .ok (.invokevirtual 99, 3) := by decide +kernel
theorem dX11_book_36 : decode cX11_book 36 = .ok (.ifCond .eq 9, 3) := by decide +kernel
theorem dX11_book_39 : decode cX11_book 39 = .ok (.aload_n 0, 1) := by decide +kernel
theorem dX11_book_40 : decode cX11_book 40 = .ok (.iconst 0, 1) := by decide +kernel
theorem dX11_book_41 : decode cX11_book 41 = .ok (.invokevirtual 84, 3) := by decide +kernel
theorem dX11_book_44 : decode cX11_book 44 = .ok (.ireturn, 1) := by decide +kernel
theorem dX11_book_45 : decode cX11_book 45 = .ok (.aload_n 0, 1) := by decide +kernel
theorem dX11_book_46 : decode cX11_book 46 = .ok (.getfield 36, 3) := by decide +kernel
theorem dX11_book_49 : decode cX11_book 49 = .ok (.aload_n 0, 1) := by decide +kernel
theorem dX11_book_50 : decode cX11_book 50 = .ok (.getfield 30, 3) := by decide +kernel
theorem dX11_book_53 : decode cX11_book 53 = .ok (.invokevirtual 189, 3) := by decide +kernel
theorem dX11_book_56 : decode cX11_book 56 = .ok (.iconst 0, 1) := by decide +kernel
theorem dX11_book_57 : decode cX11_book 57 = .ok (.istore_n 3, 1) := by decide +kernel
theorem dX11_book_58 : decode cX11_book 58 = .ok (.iload_n 3, 1) := by decide +kernel
theorem dX11_book_59 : decode cX11_book 59 = .ok (.aload_n 0, 1) := by decide +kernel
theorem dX11_book_60 : decode cX11_book 60 = .ok (.getfield 71, 3) := by decide +kernel
theorem dX11_book_63 : decode cX11_book 63 = .ok (.iload_n 1, 1) := by decide +kernel
theorem dX11_book_64 : decode cX11_book 64 = .ok (.aaload, 1) := by decide +kernel
theorem dX11_book_65 : decode cX11_book 65 = .ok (.getfield 233, 3) := by decide +kernel
theorem dX11_book_68 : decode cX11_book 68 = .ok (.if_icmp .ge 37, 3) := by decide +kernel
theorem dX11_book_71 : decode cX11_book 71 = .ok (.aload_n 0, 1) := by decide +kernel
theorem dX11_book_72 : decode cX11_book 72 = .ok (.getfield 71, 3) := by decide +kernel
theorem dX11_book_75 : decode cX11_book 75 = .ok (.iload_n 1, 1) := by decide +kernel
theorem dX11_book_76 : decode cX11_book 76 = .ok (.aaload, 1) := by decide +kernel
theorem dX11_book_77 : decode cX11_book 77 = .ok (.iload_n 3, 1) := by decide +kernel
theorem dX11_book_78 : decode cX11_book 78 = .ok (.aload_n 0, 1) := by decide +kernel
theorem dX11_book_79 : decode cX11_book 79 = .ok (.getfield 36, 3) := by decide +kernel
theorem dX11_book_82 : decode cX11_book 82 = .ok (.getfield 103, 3) := by decide +kernel
theorem dX11_book_85 : decode cX11_book 85 = .ok (.iload_n 2, 1) := by decide +kernel
theorem dX11_book_86 : decode cX11_book 86 = .ok (.iaload, 1) := by decide +kernel
theorem dX11_book_87 : decode cX11_book 87 = .ok (.i2l, 1) := by decide +kernel
theorem dX11_book_88 : decode cX11_book 88 = .ok (.invokevirtual 244, 3) := by decide +kernel
theorem dX11_book_91 : decode cX11_book 91 = .ok (.aload_n 0, 1) := by decide +kernel
theorem dX11_book_92 : decode cX11_book 92 = .ok (.getfield 36, 3) := by decide +kernel
theorem dX11_book_95 : decode cX11_book 95 = .ok (.invokevirtual 196, 3) := by decide +kernel
theorem dX11_book_98 : decode cX11_book 98 = .ok (.pop, 1) := by decide +kernel
theorem dX11_book_99 : decode cX11_book 99 = .ok (.iinc 3 1, 3) := by decide +kernel
theorem dX11_book_102 : decode cX11_book 102 = .ok (.goto (-44), 3) := by decide +kernel
theorem dX11_book_105 : decode cX11_book 105 = .ok (.aload_n 0, 1) := by decide +kernel
theorem dX11_book_106 : decode cX11_book 106 = .ok (.getfield 71, 3) := by decide +kernel
theorem dX11_book_109 : decode cX11_book 109 = .ok (.iload_n 1, 1) := by decide +kernel
theorem dX11_book_110 : decode cX11_book 110 = .ok (.aaload, 1) := by decide +kernel
theorem dX11_book_111 : decode cX11_book 111 = .ok (.getfield 233, 3) := by decide +kernel
theorem dX11_book_114 : decode cX11_book 114 = .ok (.ireturn, 1) := by decide +kernel
theorem dX11_read_0 : decode cX11_read 0 = .ok (.iload_n 1, 1) := by decide +kernel
theorem dX11_read_1 : decode cX11_read 1 = .ok (.invokestatic 227, 3) := by decide +kernel
theorem dX11_read_4 : decode cX11_read 4 = .ok (.ifCond .eq 9, 3) := by decide +kernel
theorem dX11_read_7 : decode cX11_read 7 = .ok (.aload_n 0, 1) := by decide +kernel
theorem dX11_read_8 : decode cX11_read 8 = .ok (.iconst 0, 1) := by decide +kernel
theorem dX11_read_9 : decode cX11_read 9 = .ok (.invokevirtual 84, 3) := by decide +kernel
theorem dX11_read_12 : decode cX11_read 12 = .ok (.ireturn, 1) := by decide +kernel
theorem dX11_read_13 : decode cX11_read 13 = .ok (.aload_n 0, 1) := by decide +kernel
theorem dX11_read_14 : decode cX11_read 14 = .ok (.getfield 71, 3) := by decide +kernel
theorem dX11_read_17 : decode cX11_read 17 = .ok (.iload_n 1, 1) := by decide +kernel
theorem dX11_read_18 : decode cX11_read 18 = .ok (.aaload, 1) := by decide +kernel
theorem dX11_read_19 : decode cX11_read 19 = .ok (.invokevirtual 236, 3) := by decide +kernel
theorem dX11_read_22 : decode cX11_read 22 = .ok (.ifCond .eq 9, 3) := by decide +kernel
theorem dX11_read_25 : decode cX11_read 25 = .ok (.aload_n 0, 1) := by decide +kernel
theorem dX11_read_26 : decode cX11_read 26 = .ok (.iconst 5, 1) := by decide +kernel
theorem dX11_read_27 : decode cX11_read 27 = .ok (.invokevirtual 84, 3) := by decide +kernel
theorem dX11_read_30 : decode cX11_read 30 = .ok (.ireturn, 1) := by decide +kernel
theorem dX11_read_31 : decode cX11_read 31 = .ok (.aload_n 0, 1) := by decide +kernel
theorem dX11_read_32 : decode cX11_read 32 = .ok (.iload_n 2, 1) := by decide +kernel
theorem dX11_read_33 : decode cX11_read 33 = .ok (.invokevirtual 99, 3) := by decide +kernel
theorem dX11_read_36 : decode cX11_read 36 = .ok (.ifCond .ne 11, 3) := by decide +kernel
theorem dX11_read_39 : decode cX11_read 39 = .ok (.aload_n 0, 1) := by decide +kernel
theorem dX11_read_40 : decode cX11_read 40 = .ok (.iload_n 3, 1) := by decide +kernel
theorem dX11_read_41 : decode cX11_read 41 = .ok (.invokevirtual 147, 3) := by decide +kernel
theorem dX11_read_44 : decode cX11_read 44 = .ok (.ifCond .eq 9, 3) := by decide +kernel
theorem dX11_read_47 : decode cX11_read 47 = .ok (.aload_n 0, 1) := by decide +kernel
theorem dX11_read_48 : decode cX11_read 48 = .ok (.iconst 0, 1) := by decide +kernel
theorem dX11_read_49 : decode cX11_read 49 = .ok (.invokevirtual 84, 3) := by decide +kernel
theorem dX11_read_52 : decode cX11_read 52 = .ok (.ireturn, 1) := by decide +kernel
theorem dX11_read_53 : decode cX11_read 53 = .ok (.iconst 0, 1) := by decide +kernel
theorem dX11_read_54 : decode cX11_read 54 = .ok (.istore 4, 2) := by decide +kernel
theorem dX11_read_56 : decode cX11_read 56 = .ok (.iconst 0, 1) := by decide +kernel
theorem dX11_read_57 : decode cX11_read 57 = .ok (.istore 5, 2) := by decide +kernel
theorem dX11_read_59 : decode cX11_read 59 = .ok (.iload 5, 2) := by decide +kernel
theorem dX11_read_61 : decode cX11_read 61 = .ok (.iconst 5, 1) := by decide +kernel
theorem dX11_read_62 : decode cX11_read 62 = .ok (.if_icmp .gt 78, 3) := by decide +kernel
theorem dX11_read_65 : decode cX11_read 65 = .ok (.iconst 0, 1) := by decide +kernel
theorem dX11_read_66 : decode cX11_read 66 = .ok (.istore 6, 2) := by decide +kernel
theorem dX11_read_68 : decode cX11_read 68 = .ok (.iload 6, 2) := by decide +kernel
theorem dX11_read_70 : decode cX11_read 70 = .ok (.iconst 5, 1) := by decide +kernel
theorem dX11_read_71 : decode cX11_read 71 = .ok (.if_icmp .gt 63, 3) := by decide +kernel
theorem dX11_read_74 : decode cX11_read 74 = .ok (.aload_n 0, 1) := by decide +kernel
theorem dX11_read_75 : decode cX11_read 75 = .ok (.getfield 36, 3) := by decide +kernel
theorem dX11_read_78 : decode cX11_read 78 = .ok (.aload_n 0, 1) := by decide +kernel
theorem dX11_read_79 : decode cX11_read 79 = .ok (.getfield 30, 3) := by decide +kernel
theorem dX11_read_82 : decode cX11_read 82 = .ok (.invokevirtual 189, 3) := by decide +kernel
theorem dX11_read_85 : decode cX11_read 85 = .ok (.aload_n 0, 1) := by decide +kernel
theorem dX11_read_86 : decode cX11_read 86 = .ok (.getfield 36, 3) := by decide +kernel
theorem dX11_read_89 : decode cX11_read 89 = .ok (.getfield 150, 3) := by decide +kernel
theorem dX11_read_92 : decode cX11_read 92 = .ok (.iload_n 3, 1) := by decide +kernel
theorem dX11_read_93 : decode cX11_read 93 = .ok (.iload 5, 2) := by decide +kernel
theorem dX11_read_95 : decode cX11_read 95 = .ok (.iastore, 1) := by decide +kernel
theorem dX11_read_96 : decode cX11_read 96 = .ok (.aload_n 0, 1) := by decide +kernel
theorem dX11_read_97 : decode cX11_read 97 = .ok (.getfield 36, 3) := by decide +kernel
theorem dX11_read_100 : decode cX11_read 100 = .ok (.getfield 165, 3) := by decide +kernel
theorem dX11_read_103 : decode cX11_read 103 = .ok (.iload_n 3, 1) := by decide +kernel
theorem dX11_read_104 : decode cX11_read 104 = .ok (.iload_n 2, 1) := by decide +kernel
theorem dX11_read_105 : decode cX11_read 105 = .ok (.invokestatic 168, 3) := by decide +kernel
theorem dX11_read_108 : decode cX11_read 108 = .ok (.iload 6, 2) := by decide +kernel
theorem dX11_read_110 : decode cX11_read 110 = .ok (.iastore, 1) := by decide +kernel
theorem dX11_read_111 : decode cX11_read 111 = .ok (.aload_n 0, 1) := by decide +kernel
theorem dX11_read_112 : decode cX11_read 112 = .ok (.aload_n 0, 1) := by decide +kernel
theorem dX11_read_113 : decode cX11_read 113 = .ok (.getfield 71, 3) := by decide +kernel
theorem dX11_read_116 : decode cX11_read 116 = .ok (.iload_n 1, 1) := by decide +kernel
theorem dX11_read_117 : decode cX11_read 117 = .ok (.aaload, 1) := by decide +kernel
theorem dX11_read_118 : decode cX11_read 118 = .ok (.iload_n 2, 1) := by decide +kernel
theorem dX11_read_119 : decode cX11_read 119 = .ok (.invokevirtual 261, 3) := by decide +kernel
theorem dX11_read_122 : decode cX11_read 122 = .ok (.ifCond .eq 6, 3) := by decide +kernel
theorem dX11_read_125 : decode cX11_read 125 = .ok (.iinc 4 1, 3) := by decide +kernel
theorem dX11_read_128 : decode cX11_read 128 = .ok (.iinc 6 1, 3) := by decide +kernel
theorem dX11_read_131 : decode cX11_read 131 = .ok (.goto (-63), 3) := by decide +kernel
theorem dX11_read_134 : decode cX11_read 134 = .ok (.iinc 5 1, 3) := by decide +kernel
theorem dX11_read_137 : decode cX11_read 137 = .ok (.goto (-78), 3) := by decide +kernel
theorem dX11_read_140 : decode cX11_read 140 = .ok (.iload 4, 2) := by decide +kernel
theorem dX11_read_142 : decode cX11_read 142 = .ok (.ireturn, 1) := by decide +kernel
theorem dX11_image_0 : decode cX11_image 0 = .ok (.aload_n 0, 1) := by decide +kernel
theorem dX11_image_1 : decode cX11_image 1 = .ok (.getfield 39, 3) := by decide +kernel
theorem dX11_image_4 : decode cX11_image 4 = .ok (.aload_n 0, 1) := by decide +kernel
theorem dX11_image_5 : decode cX11_image 5 = .ok (.getfield 30, 3) := by decide +kernel
theorem dX11_image_8 : decode cX11_image 8 = .ok (.invokevirtual 189, 3) := by decide +kernel
theorem dX11_image_11 : decode cX11_image 11 = .ok (.aload_n 0, 1) := by decide +kernel
theorem dX11_image_12 : decode cX11_image 12 = .ok (.iconst 1, 1) := by decide +kernel
theorem dX11_image_13 : decode cX11_image 13 = .ok (.putfield 42, 3) := by decide +kernel
theorem dX11_image_16 : decode cX11_image 16 = .ok (.iconst 1, 1) := by decide +kernel
theorem dX11_image_17 : decode cX11_image 17 = .ok (.ireturn, 1) := by decide +kernel
theorem dX11_undo_0 : decode cX11_undo 0 = .ok (.aload_n 0, 1) := by decide +kernel
theorem dX11_undo_1 : decode cX11_undo 1 = .ok (.getfield 42, 3) := by decide +kernel
theorem dX11_undo_4 : decode cX11_undo 4 = .ok (.ifCond .ne 9, 3) := by decide +kernel
theorem dX11_undo_7 : decode cX11_undo 7 = .ok (.aload_n 0, 1) := by decide +kernel
theorem dX11_undo_8 : decode cX11_undo 8 = .ok (.iconst 3, 1) := by decide +kernel
theorem dX11_undo_9 : decode cX11_undo 9 = .ok (.invokevirtual 84, 3) := by decide +kernel
theorem dX11_undo_12 : decode cX11_undo 12 = .ok (.ireturn, 1) := by decide +kernel
theorem dX11_undo_13 : decode cX11_undo 13 = .ok (.aload_n 0, 1) := by decide +kernel
theorem dX11_undo_14 : decode cX11_undo 14 = .ok (.getfield 30, 3) := by decide +kernel
theorem dX11_undo_17 : decode cX11_undo 17 = .ok (.aload_n 0, 1) := by decide +kernel
theorem dX11_undo_18 : decode cX11_undo 18 = .ok (.getfield 39, 3) := by decide +kernel
theorem dX11_undo_21 : decode cX11_undo 21 = .ok (.invokevirtual 189, 3) := by decide +kernel
theorem dX11_undo_24 : decode cX11_undo 24 = .ok (.aload_n 0, 1) := by decide +kernel
theorem dX11_undo_25 : decode cX11_undo 25 = .ok (.getfield 30, 3) := by decide +kernel
theorem dX11_undo_28 : decode cX11_undo 28 = .ok (.getfield 92, 3) := by decide +kernel
theorem dX11_undo_31 : decode cX11_undo 31 = .ok (.ireturn, 1) := by decide +kernel
theorem dX11_tear_0 : decode cX11_tear 0 = .ok (.aload_n 0, 1) := by decide +kernel
theorem dX11_tear_1 : decode cX11_tear 1 = .ok (.getfield 42, 3) := by decide +kernel
theorem dX11_tear_4 : decode cX11_tear 4 = .ok (.ifCond .eq 7, 3) := by decide +kernel
theorem dX11_tear_7 : decode cX11_tear 7 = .ok (.iconst 1, 1) := by decide +kernel
theorem dX11_tear_8 : decode cX11_tear 8 = .ok (.goto 4, 3) := by decide +kernel
theorem dX11_tear_11 : decode cX11_tear 11 = .ok (.iconst 0, 1) := by decide +kernel
theorem dX11_tear_12 : decode cX11_tear 12 = .ok (.istore_n 1, 1) := by decide +kernel
theorem dX11_tear_13 : decode cX11_tear 13 = .ok (.aload_n 0, 1) := by decide +kernel
theorem dX11_tear_14 : decode cX11_tear 14 = .ok (.iconst 0, 1) := by decide +kernel
theorem dX11_tear_15 : decode cX11_tear 15 = .ok (.putfield 42, 3) := by decide +kernel
theorem dX11_tear_18 : decode cX11_tear 18 = .ok (.iload_n 1, 1) := by decide +kernel
theorem dX11_tear_19 : decode cX11_tear 19 = .ok (.ireturn, 1) := by decide +kernel
theorem dX11_count_0 : decode cX11_count 0 = .ok (.iload_n 1, 1) := by decide +kernel
theorem dX11_count_1 : decode cX11_count 1 = .ok (.tableswitch 67 0 3 #[31, 39, 47, 55], 31) := by decide +kernel
theorem dX11_count_32 : decode cX11_count 32 = .ok (.aload_n 0, 1) := by decide +kernel
theorem dX11_count_33 : decode cX11_count 33 = .ok (.getfield 30, 3) := by decide +kernel
theorem dX11_count_36 : decode cX11_count 36 = .ok (.getfield 92, 3) := by decide +kernel
theorem dX11_count_39 : decode cX11_count 39 = .ok (.ireturn, 1) := by decide +kernel
theorem dX11_count_40 : decode cX11_count 40 = .ok (.aload_n 0, 1) := by decide +kernel
theorem dX11_count_41 : decode cX11_count 41 = .ok (.getfield 30, 3) := by decide +kernel
theorem dX11_count_44 : decode cX11_count 44 = .ok (.getfield 141, 3) := by decide +kernel
theorem dX11_count_47 : decode cX11_count 47 = .ok (.ireturn, 1) := by decide +kernel
theorem dX11_count_48 : decode cX11_count 48 = .ok (.aload_n 0, 1) := by decide +kernel
theorem dX11_count_49 : decode cX11_count 49 = .ok (.getfield 56, 3) := by decide +kernel
theorem dX11_count_52 : decode cX11_count 52 = .ok (.getfield 217, 3) := by decide +kernel
theorem dX11_count_55 : decode cX11_count 55 = .ok (.ireturn, 1) := by decide +kernel
theorem dX11_count_56 : decode cX11_count 56 = .ok (.aload_n 0, 1) := by decide +kernel
theorem dX11_count_57 : decode cX11_count 57 = .ok (.getfield 30, 3) := by decide +kernel
theorem dX11_count_60 : decode cX11_count 60 = .ok (.iconst (-1), 1) := by decide +kernel
theorem dX11_count_61 : decode cX11_count 61 = .ok (.invokevirtual 122, 3) := by decide +kernel
theorem dX11_count_64 : decode cX11_count 64 = .ok (.invokestatic 212, 3) := by decide +kernel
theorem dX11_count_67 : decode cX11_count 67 = .ok (.ireturn, 1) := by decide +kernel
theorem dX11_count_68 : decode cX11_count 68 = .ok (.aload_n 0, 1) := by decide +kernel
theorem dX11_count_69 : decode cX11_count 69 = .ok (.iconst 0, 1) := by decide +kernel
theorem dX11_count_70 : decode cX11_count 70 = .ok (.invokevirtual 84, 3) := by decide +kernel
theorem dX11_count_73 : decode cX11_count 73 = .ok (.ireturn, 1) := by decide +kernel
theorem dX11_status_0 : decode cX11_status 0 = .ok (.iload_n 1, 1) := by decide +kernel
theorem dX11_status_1 : decode cX11_status 1 = .ok (.iconst (-1), 1) := by decide +kernel
theorem dX11_status_2 : decode cX11_status 2 = .ok (.bipush 6, 2) := by decide +kernel
theorem dX11_status_4 : decode cX11_status 4 = .ok (.invokestatic 80, 3) := by decide +kernel
theorem dX11_status_7 : decode cX11_status 7 = .ok (.ifCond .ne 9, 3) := by decide +kernel
theorem dX11_status_10 : decode cX11_status 10 = .ok (.aload_n 0, 1) := by decide +kernel
theorem dX11_status_11 : decode cX11_status 11 = .ok (.iconst 0, 1) := by decide +kernel
theorem dX11_status_12 : decode cX11_status 12 = .ok (.invokevirtual 84, 3) := by decide +kernel
theorem dX11_status_15 : decode cX11_status 15 = .ok (.ireturn, 1) := by decide +kernel
theorem dX11_status_16 : decode cX11_status 16 = .ok (.iload_n 1, 1) := by decide +kernel
theorem dX11_status_17 : decode cX11_status 17 = .ok (.ifCond .lt 10, 3) := by decide +kernel
theorem dX11_status_20 : decode cX11_status 20 = .ok (.aload_n 0, 1) := by decide +kernel
theorem dX11_status_21 : decode cX11_status 21 = .ok (.getfield 76, 3) := by decide +kernel
theorem dX11_status_24 : decode cX11_status 24 = .ok (.iload_n 1, 1) := by decide +kernel
theorem dX11_status_25 : decode cX11_status 25 = .ok (.iaload, 1) := by decide +kernel
theorem dX11_status_26 : decode cX11_status 26 = .ok (.ireturn, 1) := by decide +kernel
theorem dX11_status_27 : decode cX11_status 27 = .ok (.iconst 0, 1) := by decide +kernel
theorem dX11_status_28 : decode cX11_status 28 = .ok (.istore_n 2, 1) := by decide +kernel
theorem dX11_status_29 : decode cX11_status 29 = .ok (.iconst 0, 1) := by decide +kernel
theorem dX11_status_30 : decode cX11_status 30 = .ok (.istore_n 3, 1) := by decide +kernel
theorem dX11_status_31 : decode cX11_status 31 = .ok (.iload_n 3, 1) := by decide +kernel
theorem dX11_status_32 : decode cX11_status 32 = .ok (.bipush 7, 2) := by decide +kernel
theorem dX11_status_34 : decode cX11_status 34 = .ok (.if_icmp .ge 18, 3) := by decide +kernel
theorem dX11_status_37 : decode cX11_status 37 = .ok (.iload_n 2, 1) := by decide +kernel
theorem dX11_status_38 : decode cX11_status 38 = .ok (.aload_n 0, 1) := by decide +kernel
theorem dX11_status_39 : decode cX11_status 39 = .ok (.getfield 76, 3) := by decide +kernel
theorem dX11_status_42 : decode cX11_status 42 = .ok (.iload_n 3, 1) := by decide +kernel
theorem dX11_status_43 : decode cX11_status 43 = .ok (.iaload, 1) := by decide +kernel
theorem dX11_status_44 : decode cX11_status 44 = .ok (.iadd, 1) := by decide +kernel
theorem dX11_status_45 : decode cX11_status 45 = .ok (.istore_n 2, 1) := by decide +kernel
theorem dX11_status_46 : decode cX11_status 46 = .ok (.iinc 3 1, 3) := by decide +kernel
theorem dX11_status_49 : decode cX11_status 49 = .ok (.goto (-18), 3) := by decide +kernel
theorem dX11_status_52 : decode cX11_status 52 = .ok (.iload_n 2, 1) := by decide +kernel
theorem dX11_status_53 : decode cX11_status 53 = .ok (.ireturn, 1) := by decide +kernel
theorem dX11_within_0 : decode cX11_within 0 = .ok (.iload_n 0, 1) := by decide +kernel
theorem dX11_within_1 : decode cX11_within 1 = .ok (.iload_n 1, 1) := by decide +kernel
theorem dX11_within_2 : decode cX11_within 2 = .ok (.if_icmp .lt 12, 3) := by decide +kernel
theorem dX11_within_5 : decode cX11_within 5 = .ok (.iload_n 0, 1) := by decide +kernel
theorem dX11_within_6 : decode cX11_within 6 = .ok (.iload_n 2, 1) := by decide +kernel
theorem dX11_within_7 : decode cX11_within 7 = .ok (.if_icmp .gt 7, 3) := by decide +kernel
theorem dX11_within_10 : decode cX11_within 10 = .ok (.iconst 1, 1) := by decide +kernel
theorem dX11_within_11 : decode cX11_within 11 = .ok (.goto 4, 3) := by decide +kernel
theorem dX11_within_14 : decode cX11_within 14 = .ok (.iconst 0, 1) := by decide +kernel
theorem dX11_within_15 : decode cX11_within 15 = .ok (.ireturn, 1) := by decide +kernel
theorem dX11_noSlip_0 : decode cX11_noSlip 0 = .ok (.iload_n 1, 1) := by decide +kernel
theorem dX11_noSlip_1 : decode cX11_noSlip 1 = .ok (.iconst 0, 1) := by decide +kernel
theorem dX11_noSlip_2 : decode cX11_noSlip 2 = .ok (.aload_n 0, 1) := by decide +kernel
theorem dX11_noSlip_3 : decode cX11_noSlip 3 = .ok (.getfield 30, 3) := by decide +kernel
theorem dX11_noSlip_6 : decode cX11_noSlip 6 = .ok (.getfield 92, 3) := by decide +kernel
theorem dX11_noSlip_9 : decode cX11_noSlip 9 = .ok (.iconst 1, 1) := by decide +kernel
theorem dX11_noSlip_10 : decode cX11_noSlip 10 = .ok (.isub, 1) := by decide +kernel
theorem dX11_noSlip_11 : decode cX11_noSlip 11 = .ok (.invokestatic 80, 3) := by decide +kernel
theorem dX11_noSlip_14 : decode cX11_noSlip 14 = .ok (.ifCond .ne 7, 3) := by decide +kernel
theorem dX11_noSlip_17 : decode cX11_noSlip 17 = .ok (.iconst 1, 1) := by decide +kernel
theorem dX11_noSlip_18 : decode cX11_noSlip 18 = .ok (.goto 4, 3) := by decide +kernel
theorem dX11_noSlip_21 : decode cX11_noSlip 21 = .ok (.iconst 0, 1) := by decide +kernel
theorem dX11_noSlip_22 : decode cX11_noSlip 22 = .ok (.ireturn, 1) := by decide +kernel
theorem dX11_noPerson_0 : decode cX11_noPerson 0 = .ok (.iload_n 1, 1) := by decide +kernel
theorem dX11_noPerson_1 : decode cX11_noPerson 1 = .ok (.iconst 0, 1) := by decide +kernel
theorem dX11_noPerson_2 : decode cX11_noPerson 2 = .ok (.aload_n 0, 1) := by decide +kernel
theorem dX11_noPerson_3 : decode cX11_noPerson 3 = .ok (.getfield 30, 3) := by decide +kernel
theorem dX11_noPerson_6 : decode cX11_noPerson 6 = .ok (.getfield 141, 3) := by decide +kernel
theorem dX11_noPerson_9 : decode cX11_noPerson 9 = .ok (.iconst 1, 1) := by decide +kernel
theorem dX11_noPerson_10 : decode cX11_noPerson 10 = .ok (.isub, 1) := by decide +kernel
theorem dX11_noPerson_11 : decode cX11_noPerson 11 = .ok (.invokestatic 80, 3) := by decide +kernel
theorem dX11_noPerson_14 : decode cX11_noPerson 14 = .ok (.ifCond .ne 7, 3) := by decide +kernel
theorem dX11_noPerson_17 : decode cX11_noPerson 17 = .ok (.iconst 1, 1) := by decide +kernel
theorem dX11_noPerson_18 : decode cX11_noPerson 18 = .ok (.goto 4, 3) := by decide +kernel
theorem dX11_noPerson_21 : decode cX11_noPerson 21 = .ok (.iconst 0, 1) := by decide +kernel
theorem dX11_noPerson_22 : decode cX11_noPerson 22 = .ok (.ireturn, 1) := by decide +kernel
theorem dX11_noSheet_0 : decode cX11_noSheet 0 = .ok (.iload_n 0, 1) := by decide +kernel
theorem dX11_noSheet_1 : decode cX11_noSheet 1 = .ok (.iconst 0, 1) := by decide +kernel
theorem dX11_noSheet_2 : decode cX11_noSheet 2 = .ok (.iconst 3, 1) := by decide +kernel
theorem dX11_noSheet_3 : decode cX11_noSheet 3 = .ok (.invokestatic 80, 3) := by decide +kernel
theorem dX11_noSheet_6 : decode cX11_noSheet 6 = .ok (.ifCond .ne 7, 3) := by decide +kernel
theorem dX11_noSheet_9 : decode cX11_noSheet 9 = .ok (.iconst 1, 1) := by decide +kernel
theorem dX11_noSheet_10 : decode cX11_noSheet 10 = .ok (.goto 4, 3) := by decide +kernel
theorem dX11_noSheet_13 : decode cX11_noSheet 13 = .ok (.iconst 0, 1) := by decide +kernel
theorem dX11_noSheet_14 : decode cX11_noSheet 14 = .ok (.ireturn, 1) := by decide +kernel
theorem dX11_finding_0 : decode cX11_finding 0 = .ok (.aload_n 0, 1) := by decide +kernel
theorem dX11_finding_1 : decode cX11_finding 1 = .ok (.getfield 76, 3) := by decide +kernel
theorem dX11_finding_4 : decode cX11_finding 4 = .ok (.iload_n 1, 1) := by decide +kernel
theorem dX11_finding_5 : decode cX11_finding 5 = .ok (.dup2, 1) := by decide +kernel
theorem dX11_finding_6 : decode cX11_finding 6 = .ok (.iaload, 1) := by decide +kernel
theorem dX11_finding_7 : decode cX11_finding 7 = .ok (.iconst 1, 1) := by decide +kernel
theorem dX11_finding_8 : decode cX11_finding 8 = .ok (.iadd, 1) := by decide +kernel
theorem dX11_finding_9 : decode cX11_finding 9 = .ok (.iastore, 1) := by decide +kernel
theorem dX11_finding_10 : decode cX11_finding 10 = .ok (.ldc_w 265, 3) := by decide +kernel
theorem dX11_finding_13 : decode cX11_finding 13 = .ok (.iload_n 1, 1) := by decide +kernel
theorem dX11_finding_14 : decode cX11_finding 14 = .ok (.isub, 1) := by decide +kernel
theorem dX11_finding_15 : decode cX11_finding 15 = .ok (.ireturn, 1) := by decide +kernel
theorem dX11_put_0 : decode cX11_put 0 = .ok (.iload_n 3, 1) := by decide +kernel
theorem dX11_put_1 : decode cX11_put 1 = .ok (.iload 4, 2) := by decide +kernel
theorem dX11_put_3 : decode cX11_put 3 = .ok (.iload 5, 2) := by decide +kernel
theorem dX11_put_5 : decode cX11_put 5 = .ok (.invokestatic 80, 3) := by decide +kernel
theorem dX11_put_8 : decode cX11_put 8 = .ok (.ifCond .ne 9, 3) := by decide +kernel
theorem dX11_put_11 : decode cX11_put 11 = .ok (.aload_n 0, 1) := by decide +kernel
theorem dX11_put_12 : decode cX11_put 12 = .ok (.iconst 0, 1) := by decide +kernel
theorem dX11_put_13 : decode cX11_put 13 = .ok (.invokevirtual 84, 3) := by decide +kernel
theorem dX11_put_16 : decode cX11_put 16 = .ok (.ireturn, 1) := by decide +kernel
theorem dX11_put_17 : decode cX11_put 17 = .ok (.aload_n 1, 1) := by decide +kernel
theorem dX11_put_18 : decode cX11_put 18 = .ok (.iload_n 2, 1) := by decide +kernel
theorem dX11_put_19 : decode cX11_put 19 = .ok (.iaload, 1) := by decide +kernel
theorem dX11_put_20 : decode cX11_put 20 = .ok (.istore 6, 2) := by decide +kernel
theorem dX11_put_22 : decode cX11_put 22 = .ok (.aload_n 1, 1) := by decide +kernel
theorem dX11_put_23 : decode cX11_put 23 = .ok (.iload_n 2, 1) := by decide +kernel
theorem dX11_put_24 : decode cX11_put 24 = .ok (.iload_n 3, 1) := by decide +kernel
theorem dX11_put_25 : decode cX11_put 25 = .ok (.iastore, 1) := by decide +kernel
theorem dX11_put_26 : decode cX11_put 26 = .ok (.iload 6, 2) := by decide +kernel
theorem dX11_put_28 : decode cX11_put 28 = .ok (.ireturn, 1) := by decide +kernel
theorem dX11_tryOn_0 : decode cX11_tryOn 0 = .ok (.aload_n 0, 1) := by decide +kernel
theorem dX11_tryOn_1 : decode cX11_tryOn 1 = .ok (.getfield 36, 3) := by decide +kernel
theorem dX11_tryOn_4 : decode cX11_tryOn 4 = .ok (.aload_n 0, 1) := by decide +kernel
theorem dX11_tryOn_5 : decode cX11_tryOn 5 = .ok (.getfield 30, 3) := by decide +kernel
theorem dX11_tryOn_8 : decode cX11_tryOn 8 = .ok (.invokevirtual 189, 3) := by decide +kernel
theorem dX11_tryOn_11 : decode cX11_tryOn 11 = .ok (.aload_n 0, 1) := by decide +kernel
theorem dX11_tryOn_12 : decode cX11_tryOn 12 = .ok (.getfield 36, 3) := by decide +kernel
theorem dX11_tryOn_15 : decode cX11_tryOn 15 = .ok (.iload_n 1, 1) := by decide +kernel
theorem dX11_tryOn_16 : decode cX11_tryOn 16 = .ok (.invokevirtual 182, 3) := by decide +kernel
theorem dX11_tryOn_19 : decode cX11_tryOn 19 = .ok (.return_, 1) := by decide +kernel
theorem dX11_wayOfTrial_0 : decode cX11_wayOfTrial 0 = .ok (.aload_n 0, 1) := by decide +kernel
theorem dX11_wayOfTrial_1 : decode cX11_wayOfTrial 1 = .ok (.getfield 36, 3) := by decide +kernel
theorem dX11_wayOfTrial_4 : decode cX11_wayOfTrial 4 = .ok (.iload_n 2, 1) := by decide +kernel
theorem dX11_wayOfTrial_5 : decode cX11_wayOfTrial 5 = .ok (.invokevirtual 182, 3) := by decide +kernel
theorem dX11_wayOfTrial_8 : decode cX11_wayOfTrial 8 = .ok (.aload_n 0, 1) := by decide +kernel
theorem dX11_wayOfTrial_9 : decode cX11_wayOfTrial 9 = .ok (.getfield 36, 3) := by decide +kernel
theorem dX11_wayOfTrial_12 : decode cX11_wayOfTrial 12 = .ok (.iload_n 1, 1) := by decide +kernel
theorem dX11_wayOfTrial_13 : decode cX11_wayOfTrial 13 = .ok (.invokevirtual 175, 3) := by decide +kernel
theorem dX11_wayOfTrial_16 : decode cX11_wayOfTrial 16 = .ok (.ireturn, 1) := by decide +kernel
theorem dX11_bestOrNone_0 : decode cX11_bestOrNone 0 = .ok (.aload_n 0, 1) := by decide +kernel
theorem dX11_bestOrNone_1 : decode cX11_bestOrNone 1 = .ok (.getfield 49, 3) := by decide +kernel
theorem dX11_bestOrNone_4 : decode cX11_bestOrNone 4 = .ok (.getfield 206, 3) := by decide +kernel
theorem dX11_bestOrNone_7 : decode cX11_bestOrNone 7 = .ok (.iconst (-1), 1) := by decide +kernel
theorem dX11_bestOrNone_8 : decode cX11_bestOrNone 8 = .ok (.if_icmp .ne 11, 3) := by decide +kernel
theorem dX11_bestOrNone_11 : decode cX11_bestOrNone 11 = .ok (.aload_n 0, 1) := by decide +kernel
theorem dX11_bestOrNone_12 : decode cX11_bestOrNone 12 = .ok (.iconst 3, 1) := by decide +kernel
theorem dX11_bestOrNone_13 : decode cX11_bestOrNone 13 = .ok (.invokevirtual 84, 3) := by decide +kernel
theorem dX11_bestOrNone_16 : decode cX11_bestOrNone 16 = .ok (.goto 10, 3) := by decide +kernel
theorem dX11_bestOrNone_19 : decode cX11_bestOrNone 19 = .ok (.aload_n 0, 1) := by decide +kernel
theorem dX11_bestOrNone_20 : decode cX11_bestOrNone 20 = .ok (.getfield 49, 3) := by decide +kernel
theorem dX11_bestOrNone_23 : decode cX11_bestOrNone 23 = .ok (.getfield 206, 3) := by decide +kernel
theorem dX11_bestOrNone_26 : decode cX11_bestOrNone 26 = .ok (.ireturn, 1) := by decide +kernel
theorem dX11_groupMostWanted_0 : decode cX11_groupMostWanted 0 = .ok (.aload_n 0, 1) := by decide +kernel
theorem dX11_groupMostWanted_1 : decode cX11_groupMostWanted 1 = .ok (.getfield 30, 3) := by decide +kernel
theorem dX11_groupMostWanted_4 : decode cX11_groupMostWanted 4 = .ok (.getfield 141, 3) := by decide +kernel
theorem dX11_groupMostWanted_7 : decode cX11_groupMostWanted 7 = .ok (.ifCond .ne 5, 3) := by decide +kernel
theorem dX11_groupMostWanted_10 : decode cX11_groupMostWanted 10 = .ok (.iconst (-1), 1) := by decide +kernel
theorem dX11_groupMostWanted_11 : decode cX11_groupMostWanted 11 = .ok (.ireturn, 1) := by decide +kernel
theorem dX11_groupMostWanted_12 : decode cX11_groupMostWanted 12 = .ok (.aload_n 0, 1) := by decide +kernel
theorem dX11_groupMostWanted_13 : decode cX11_groupMostWanted 13 = .ok (.getfield 49, 3) := by decide +kernel
theorem dX11_groupMostWanted_16 : decode cX11_groupMostWanted 16 = .ok (.invokevirtual 199, 3) := by decide +kernel
theorem dX11_groupMostWanted_19 : decode cX11_groupMostWanted 19 = .ok (.iconst 0, 1) := by decide +kernel
theorem dX11_groupMostWanted_20 : decode cX11_groupMostWanted 20 = .ok (.istore_n 2, 1) := by decide +kernel
theorem dX11_groupMostWanted_21 : decode cX11_groupMostWanted 21 = .ok (.iload_n 2, 1) := by decide +kernel
theorem dX11_groupMostWanted_22 : decode cX11_groupMostWanted 22 = .ok (.iconst 5, 1) := by decide +kernel
theorem dX11_groupMostWanted_23 : decode cX11_groupMostWanted 23 = .ok (.if_icmp .gt 26, 3) := by decide +kernel
theorem dX11_groupMostWanted_26 : decode cX11_groupMostWanted 26 = .ok (.aload_n 0, 1) := by decide +kernel
theorem dX11_groupMostWanted_27 : decode cX11_groupMostWanted 27 = .ok (.getfield 49, 3) := by decide +kernel
theorem dX11_groupMostWanted_30 : decode cX11_groupMostWanted 30 = .ok (.iload_n 2, 1) := by decide +kernel
theorem dX11_groupMostWanted_31 : decode cX11_groupMostWanted 31 = .ok (.aload_n 0, 1) := by decide +kernel
theorem dX11_groupMostWanted_32 : decode cX11_groupMostWanted 32 = .ok (.getfield 30, 3) := by decide +kernel
theorem dX11_groupMostWanted_35 : decode cX11_groupMostWanted 35 = .ok (.iload_n 1, 1) := by decide +kernel
theorem dX11_groupMostWanted_36 : decode cX11_groupMostWanted 36 = .ok (.iload_n 2, 1) := by decide +kernel
theorem dX11_groupMostWanted_37 : decode cX11_groupMostWanted 37 = .ok (.invokevirtual 266, 3) := by decide +kernel
theorem dX11_groupMostWanted_40 : decode cX11_groupMostWanted 40 = .ok (.invokevirtual 202, 3) := by decide +kernel
theorem dX11_groupMostWanted_43 : decode cX11_groupMostWanted 43 = .ok (.iinc 2 1, 3) := by decide +kernel
theorem dX11_groupMostWanted_46 : decode cX11_groupMostWanted 46 = .ok (.goto (-25), 3) := by decide +kernel
theorem dX11_groupMostWanted_49 : decode cX11_groupMostWanted 49 = .ok (.aload_n 0, 1) := by decide +kernel
theorem dX11_groupMostWanted_50 : decode cX11_groupMostWanted 50 = .ok (.getfield 49, 3) := by decide +kernel
theorem dX11_groupMostWanted_53 : decode cX11_groupMostWanted 53 = .ok (.getfield 206, 3) := by decide +kernel
theorem dX11_groupMostWanted_56 : decode cX11_groupMostWanted 56 = .ok (.ireturn, 1) := by decide +kernel
theorem dX11_trialGoesAs_0 : decode cX11_trialGoesAs 0 = .ok (.iconst 0, 1) := by decide +kernel
theorem dX11_trialGoesAs_1 : decode cX11_trialGoesAs 1 = .ok (.istore_n 3, 1) := by decide +kernel
theorem dX11_trialGoesAs_2 : decode cX11_trialGoesAs 2 = .ok (.iload_n 3, 1) := by decide +kernel
theorem dX11_trialGoesAs_3 : decode cX11_trialGoesAs 3 = .ok (.aload_n 1, 1) := by decide +kernel
theorem dX11_trialGoesAs_4 : decode cX11_trialGoesAs 4 = .ok (.getfield 233, 3) := by decide +kernel
theorem dX11_trialGoesAs_7 : decode cX11_trialGoesAs 7 = .ok (.if_icmp .ge 39, 3) := by decide +kernel
theorem dX11_trialGoesAs_10 : decode cX11_trialGoesAs 10 = .ok (.aload_n 1, 1) := by decide +kernel
theorem dX11_trialGoesAs_11 : decode cX11_trialGoesAs 11 = .ok (.getfield 240, 3) := by decide +kernel
theorem dX11_trialGoesAs_14 : decode cX11_trialGoesAs 14 = .ok (.iload_n 3, 1) := by decide +kernel
theorem dX11_trialGoesAs_15 : decode cX11_trialGoesAs 15 = .ok (.laload, 1) := by decide +kernel
theorem dX11_trialGoesAs_16 : decode cX11_trialGoesAs 16 = .ok (.aload_n 0, 1) := by decide +kernel
theorem dX11_trialGoesAs_17 : decode cX11_trialGoesAs 17 = .ok (.getfield 36, 3) := by decide +kernel
theorem dX11_trialGoesAs_20 : decode cX11_trialGoesAs 20 = .ok (.getfield 103, 3) := by decide +kernel
theorem dX11_trialGoesAs_23 : decode cX11_trialGoesAs 23 = .ok (.iload_n 2, 1) := by decide +kernel
theorem dX11_trialGoesAs_24 : decode cX11_trialGoesAs 24 = .ok (.iaload, 1) := by decide +kernel
theorem dX11_trialGoesAs_25 : decode cX11_trialGoesAs 25 = .ok (.i2l, 1) := by decide +kernel
theorem dX11_trialGoesAs_26 : decode cX11_trialGoesAs 26 = .ok (.lcmp, 1) := by decide +kernel
theorem dX11_trialGoesAs_27 : decode cX11_trialGoesAs 27 = .ok (.ifCond .eq 5, 3) := by decide +kernel
theorem dX11_trialGoesAs_30 : decode cX11_trialGoesAs 30 = .ok (.iconst 0, 1) := by decide +kernel
theorem dX11_trialGoesAs_31 : decode cX11_trialGoesAs 31 = .ok (.ireturn, 1) := by decide +kernel
theorem dX11_trialGoesAs_32 : decode cX11_trialGoesAs 32 = .ok (.aload_n 0, 1) := by decide +kernel
theorem dX11_trialGoesAs_33 : decode cX11_trialGoesAs 33 = .ok (.getfield 36, 3) := by decide +kernel
theorem dX11_trialGoesAs_36 : decode cX11_trialGoesAs 36 = .ok (.invokevirtual 196, 3) := by decide +kernel
theorem dX11_trialGoesAs_39 : decode cX11_trialGoesAs 39 = .ok (.pop, 1) := by decide +kernel
theorem dX11_trialGoesAs_40 : decode cX11_trialGoesAs 40 = .ok (.iinc 3 1, 3) := by decide +kernel
theorem dX11_trialGoesAs_43 : decode cX11_trialGoesAs 43 = .ok (.goto (-41), 3) := by decide +kernel
theorem dX11_trialGoesAs_46 : decode cX11_trialGoesAs 46 = .ok (.iconst 1, 1) := by decide +kernel
theorem dX11_trialGoesAs_47 : decode cX11_trialGoesAs 47 = .ok (.ireturn, 1) := by decide +kernel
theorem dJ6_bitCount_0f7a4_0 : decode cJ6_bitCount_0f7a4 0 = .ok (.iload_n 0, 1) := by decide +kernel
theorem dJ6_bitCount_0f7a4_1 : decode cJ6_bitCount_0f7a4 1 = .ok (.iload_n 0, 1) := by decide +kernel
theorem dJ6_bitCount_0f7a4_2 : decode cJ6_bitCount_0f7a4 2 = .ok (.iconst 1, 1) := by decide +kernel
theorem dJ6_bitCount_0f7a4_3 : decode cJ6_bitCount_0f7a4 3 = .ok (.iushr, 1) := by decide +kernel
theorem dJ6_bitCount_0f7a4_4 : decode cJ6_bitCount_0f7a4 4 = .ok (.ldc_w 265, 3) := by decide +kernel
theorem dJ6_bitCount_0f7a4_7 : decode cJ6_bitCount_0f7a4 7 = .ok (.iand, 1) := by decide +kernel
theorem dJ6_bitCount_0f7a4_8 : decode cJ6_bitCount_0f7a4 8 = .ok (.isub, 1) := by decide +kernel
theorem dJ6_bitCount_0f7a4_9 : decode cJ6_bitCount_0f7a4 9 = .ok (.istore_n 0, 1) := by decide +kernel
theorem dJ6_bitCount_0f7a4_10 : decode cJ6_bitCount_0f7a4 10 = .ok (.iload_n 0, 1) := by decide +kernel
theorem dJ6_bitCount_0f7a4_11 : decode cJ6_bitCount_0f7a4 11 = .ok (.ldc_w 266, 3) := by decide +kernel
theorem dJ6_bitCount_0f7a4_14 : decode cJ6_bitCount_0f7a4 14 = .ok (.iand, 1) := by decide +kernel
theorem dJ6_bitCount_0f7a4_15 : decode cJ6_bitCount_0f7a4 15 = .ok (.iload_n 0, 1) := by decide +kernel
theorem dJ6_bitCount_0f7a4_16 : decode cJ6_bitCount_0f7a4 16 = .ok (.iconst 2, 1) := by decide +kernel
theorem dJ6_bitCount_0f7a4_17 : decode cJ6_bitCount_0f7a4 17 = .ok (.iushr, 1) := by decide +kernel
theorem dJ6_bitCount_0f7a4_18 : decode cJ6_bitCount_0f7a4 18 = .ok (.ldc_w 266, 3) := by decide +kernel
theorem dJ6_bitCount_0f7a4_21 : decode cJ6_bitCount_0f7a4 21 = .ok (.iand, 1) := by decide +kernel
theorem dJ6_bitCount_0f7a4_22 : decode cJ6_bitCount_0f7a4 22 = .ok (.iadd, 1) := by decide +kernel
theorem dJ6_bitCount_0f7a4_23 : decode cJ6_bitCount_0f7a4 23 = .ok (.istore_n 0, 1) := by decide +kernel
theorem dJ6_bitCount_0f7a4_24 : decode cJ6_bitCount_0f7a4 24 = .ok (.iload_n 0, 1) := by decide +kernel
theorem dJ6_bitCount_0f7a4_25 : decode cJ6_bitCount_0f7a4 25 = .ok (.iload_n 0, 1) := by decide +kernel
theorem dJ6_bitCount_0f7a4_26 : decode cJ6_bitCount_0f7a4 26 = .ok (.iconst 4, 1) := by decide +kernel
theorem dJ6_bitCount_0f7a4_27 : decode cJ6_bitCount_0f7a4 27 = .ok (.iushr, 1) := by decide +kernel
theorem dJ6_bitCount_0f7a4_28 : decode cJ6_bitCount_0f7a4 28 = .ok (.iadd, 1) := by decide +kernel
theorem dJ6_bitCount_0f7a4_29 : decode cJ6_bitCount_0f7a4 29 = .ok (.ldc_w 267, 3) := by decide +kernel
theorem dJ6_bitCount_0f7a4_32 : decode cJ6_bitCount_0f7a4 32 = .ok (.iand, 1) := by decide +kernel
theorem dJ6_bitCount_0f7a4_33 : decode cJ6_bitCount_0f7a4 33 = .ok (.istore_n 0, 1) := by decide +kernel
theorem dJ6_bitCount_0f7a4_34 : decode cJ6_bitCount_0f7a4 34 = .ok (.iload_n 0, 1) := by decide +kernel
theorem dJ6_bitCount_0f7a4_35 : decode cJ6_bitCount_0f7a4 35 = .ok (.iload_n 0, 1) := by decide +kernel
theorem dJ6_bitCount_0f7a4_36 : decode cJ6_bitCount_0f7a4 36 = .ok (.bipush 8, 2) := by decide +kernel
theorem dJ6_bitCount_0f7a4_38 : decode cJ6_bitCount_0f7a4 38 = .ok (.iushr, 1) := by decide +kernel
theorem dJ6_bitCount_0f7a4_39 : decode cJ6_bitCount_0f7a4 39 = .ok (.iadd, 1) := by decide +kernel
theorem dJ6_bitCount_0f7a4_40 : decode cJ6_bitCount_0f7a4 40 = .ok (.istore_n 0, 1) := by decide +kernel
theorem dJ6_bitCount_0f7a4_41 : decode cJ6_bitCount_0f7a4 41 = .ok (.iload_n 0, 1) := by decide +kernel
theorem dJ6_bitCount_0f7a4_42 : decode cJ6_bitCount_0f7a4 42 = .ok (.iload_n 0, 1) := by decide +kernel
theorem dJ6_bitCount_0f7a4_43 : decode cJ6_bitCount_0f7a4 43 = .ok (.bipush 16, 2) := by decide +kernel
theorem dJ6_bitCount_0f7a4_45 : decode cJ6_bitCount_0f7a4 45 = .ok (.iushr, 1) := by decide +kernel
theorem dJ6_bitCount_0f7a4_46 : decode cJ6_bitCount_0f7a4 46 = .ok (.iadd, 1) := by decide +kernel
theorem dJ6_bitCount_0f7a4_47 : decode cJ6_bitCount_0f7a4 47 = .ok (.istore_n 0, 1) := by decide +kernel
theorem dJ6_bitCount_0f7a4_48 : decode cJ6_bitCount_0f7a4 48 = .ok (.iload_n 0, 1) := by decide +kernel
theorem dJ6_bitCount_0f7a4_49 : decode cJ6_bitCount_0f7a4 49 = .ok (.bipush 63, 2) := by decide +kernel
theorem dJ6_bitCount_0f7a4_51 : decode cJ6_bitCount_0f7a4 51 = .ok (.iand, 1) := by decide +kernel
theorem dJ6_bitCount_0f7a4_52 : decode cJ6_bitCount_0f7a4 52 = .ok (.ireturn, 1) := by decide +kernel
theorem dJ9_min_7cf53_0 : decode cJ9_min_7cf53 0 = .ok (.iload_n 0, 1) := by decide +kernel
theorem dJ9_min_7cf53_1 : decode cJ9_min_7cf53 1 = .ok (.iload_n 1, 1) := by decide +kernel
theorem dJ9_min_7cf53_2 : decode cJ9_min_7cf53 2 = .ok (.if_icmp .gt 7, 3) := by decide +kernel
theorem dJ9_min_7cf53_5 : decode cJ9_min_7cf53 5 = .ok (.iload_n 0, 1) := by decide +kernel
theorem dJ9_min_7cf53_6 : decode cJ9_min_7cf53 6 = .ok (.goto 4, 3) := by decide +kernel
theorem dJ9_min_7cf53_9 : decode cJ9_min_7cf53 9 = .ok (.iload_n 1, 1) := by decide +kernel
theorem dJ9_min_7cf53_10 : decode cJ9_min_7cf53 10 = .ok (.ireturn, 1) := by decide +kernel
theorem dJ0_length_8abf5_0 : decode cJ0_length_8abf5 0 = .ok (.aload_n 0, 1) := by decide +kernel
theorem dJ0_length_8abf5_1 : decode cJ0_length_8abf5 1 = .ok (.getfield 9, 3) := by decide +kernel
theorem dJ0_length_8abf5_4 : decode cJ0_length_8abf5 4 = .ok (.arraylength, 1) := by decide +kernel
theorem dJ0_length_8abf5_5 : decode cJ0_length_8abf5 5 = .ok (.aload_n 0, 1) := by decide +kernel
theorem dJ0_length_8abf5_6 : decode cJ0_length_8abf5 6 = .ok (.invokevirtual 335, 3) := by decide +kernel
theorem dJ0_length_8abf5_9 : decode cJ0_length_8abf5 9 = .ok (.ishr, 1) := by decide +kernel
theorem dJ0_length_8abf5_10 : decode cJ0_length_8abf5 10 = .ok (.ireturn, 1) := by decide +kernel
theorem dJ0_charAt_5068e_0 : decode cJ0_charAt_5068e 0 = .ok (.aload_n 0, 1) := by decide +kernel
theorem dJ0_charAt_5068e_1 : decode cJ0_charAt_5068e 1 = .ok (.invokevirtual 492, 3) := by decide +kernel
theorem dJ0_charAt_5068e_4 : decode cJ0_charAt_5068e 4 = .ok (.ifCond .eq 12, 3) := by decide +kernel
theorem dJ0_charAt_5068e_7 : decode cJ0_charAt_5068e 7 = .ok (.aload_n 0, 1) := by decide +kernel
theorem dJ0_charAt_5068e_8 : decode cJ0_charAt_5068e 8 = .ok (.getfield 9, 3) := by decide +kernel
theorem dJ0_charAt_5068e_11 : decode cJ0_charAt_5068e 11 = .ok (.iload_n 1, 1) := by decide +kernel
theorem dJ0_charAt_5068e_12 : decode cJ0_charAt_5068e 12 = .ok (.invokestatic 495, 3) := by decide +kernel
theorem dJ0_charAt_5068e_15 : decode cJ0_charAt_5068e 15 = .ok (.ireturn, 1) := by decide +kernel
theorem dJ0_charAt_5068e_16 : decode cJ0_charAt_5068e 16 = .ok (.aload_n 0, 1) := by decide +kernel
theorem dJ0_charAt_5068e_17 : decode cJ0_charAt_5068e 17 = .ok (.getfield 9, 3) := by decide +kernel
theorem dJ0_charAt_5068e_20 : decode cJ0_charAt_5068e 20 = .ok (.iload_n 1, 1) := by decide +kernel
theorem dJ0_charAt_5068e_21 : decode cJ0_charAt_5068e 21 = .ok (.invokestatic 498, 3) := by decide +kernel
theorem dJ0_charAt_5068e_24 : decode cJ0_charAt_5068e 24 = .ok (.ireturn, 1) := by decide +kernel
theorem dJ0_coder_7d493_0 : decode cJ0_coder_7d493 0 = .ok (.getstatic 38, 3) := by decide +kernel
theorem dJ0_coder_7d493_3 : decode cJ0_coder_7d493 3 = .ok (.ifCond .eq 10, 3) := by decide +kernel
theorem dJ0_coder_7d493_6 : decode cJ0_coder_7d493 6 = .ok (.aload_n 0, 1) := by decide +kernel
theorem dJ0_coder_7d493_7 : decode cJ0_coder_7d493 7 = .ok (.getfield 15, 3) := by decide +kernel
theorem dJ0_coder_7d493_10 : decode cJ0_coder_7d493 10 = .ok (.goto 4, 3) := by decide +kernel
theorem dJ0_coder_7d493_13 : decode cJ0_coder_7d493 13 = .ok (.iconst 1, 1) := by decide +kernel
theorem dJ0_coder_7d493_14 : decode cJ0_coder_7d493 14 = .ok (.ireturn, 1) := by decide +kernel
theorem dJ0_isLatin1_aae02_0 : decode cJ0_isLatin1_aae02 0 = .ok (.getstatic 38, 3) := by decide +kernel
theorem dJ0_isLatin1_aae02_3 : decode cJ0_isLatin1_aae02 3 = .ok (.ifCond .eq 14, 3) := by decide +kernel
theorem dJ0_isLatin1_aae02_6 : decode cJ0_isLatin1_aae02 6 = .ok (.aload_n 0, 1) := by decide +kernel
theorem dJ0_isLatin1_aae02_7 : decode cJ0_isLatin1_aae02 7 = .ok (.getfield 15, 3) := by decide +kernel
theorem dJ0_isLatin1_aae02_10 : decode cJ0_isLatin1_aae02 10 = .ok (.ifCond .ne 7, 3) := by decide +kernel
theorem dJ0_isLatin1_aae02_13 : decode cJ0_isLatin1_aae02 13 = .ok (.iconst 1, 1) := by decide +kernel
theorem dJ0_isLatin1_aae02_14 : decode cJ0_isLatin1_aae02 14 = .ok (.goto 4, 3) := by decide +kernel
theorem dJ0_isLatin1_aae02_17 : decode cJ0_isLatin1_aae02 17 = .ok (.iconst 0, 1) := by decide +kernel
theorem dJ0_isLatin1_aae02_18 : decode cJ0_isLatin1_aae02 18 = .ok (.ireturn, 1) := by decide +kernel
theorem dJ0_checkIndex_df160_0 : decode cJ0_checkIndex_df160 0 = .ok (.iload_n 0, 1) := by decide +kernel
theorem dJ0_checkIndex_df160_1 : decode cJ0_checkIndex_df160 1 = .ok (.iload_n 1, 1) := by decide +kernel
theorem dJ0_checkIndex_df160_2 : decode cJ0_checkIndex_df160 2 = .ok (.getstatic 1053, 3) := by decide +kernel
theorem dJ0_checkIndex_df160_5 : decode cJ0_checkIndex_df160 5 = .ok (.invokestatic 1059, 3) := by decide +kernel
theorem dJ0_checkIndex_df160_8 : decode cJ0_checkIndex_df160 8 = .ok (.pop, 1) := by decide +kernel
theorem dJ0_checkIndex_df160_9 : decode cJ0_checkIndex_df160 9 = .ok (.return_, 1) := by decide +kernel
theorem dJ1_charAt_3b067_0 : decode cJ1_charAt_3b067 0 = .ok (.iload_n 1, 1) := by decide +kernel
theorem dJ1_charAt_3b067_1 : decode cJ1_charAt_3b067 1 = .ok (.aload_n 0, 1) := by decide +kernel
theorem dJ1_charAt_3b067_2 : decode cJ1_charAt_3b067 2 = .ok (.arraylength, 1) := by decide +kernel
theorem dJ1_charAt_3b067_3 : decode cJ1_charAt_3b067 3 = .ok (.invokestatic 9, 3) := by decide +kernel
theorem dJ1_charAt_3b067_6 : decode cJ1_charAt_3b067 6 = .ok (.aload_n 0, 1) := by decide +kernel
theorem dJ1_charAt_3b067_7 : decode cJ1_charAt_3b067 7 = .ok (.iload_n 1, 1) := by decide +kernel
theorem dJ1_charAt_3b067_8 : decode cJ1_charAt_3b067 8 = .ok (.baload, 1) := by decide +kernel
theorem dJ1_charAt_3b067_9 : decode cJ1_charAt_3b067 9 = .ok (.sipush 255, 3) := by decide +kernel
theorem dJ1_charAt_3b067_12 : decode cJ1_charAt_3b067 12 = .ok (.iand, 1) := by decide +kernel
theorem dJ1_charAt_3b067_13 : decode cJ1_charAt_3b067 13 = .ok (.i2c, 1) := by decide +kernel
theorem dJ1_charAt_3b067_14 : decode cJ1_charAt_3b067 14 = .ok (.ireturn, 1) := by decide +kernel
theorem dJ2_getChar_3b067_0 : decode cJ2_getChar_3b067 0 = .ok (.getstatic 44, 3) := by decide +kernel
theorem dJ2_getChar_3b067_3 : decode cJ2_getChar_3b067 3 = .ok (.ifCond .ne 25, 3) := by decide +kernel
theorem dJ2_getChar_3b067_6 : decode cJ2_getChar_3b067 6 = .ok (.iload_n 1, 1) := by decide +kernel
theorem dJ2_getChar_3b067_7 : decode cJ2_getChar_3b067 7 = .ok (.ifCond .lt 11, 3) := by decide +kernel
theorem dJ2_getChar_3b067_10 : decode cJ2_getChar_3b067 10 = .ok (.iload_n 1, 1) := by decide +kernel
theorem dJ2_getChar_3b067_11 : decode cJ2_getChar_3b067 11 = .ok (.aload_n 0, 1) := by decide +kernel
theorem dJ2_getChar_3b067_12 : decode cJ2_getChar_3b067 12 = .ok (.invokestatic 48, 3) := by decide +kernel
theorem dJ2_getChar_3b067_15 : decode cJ2_getChar_3b067 15 = .ok (.if_icmp .lt 13, 3) := by decide +kernel
theorem dJ2_getChar_3b067_18 : decode cJ2_getChar_3b067 18 = .ok (.new 52, 3) := by decide +kernel
theorem dJ2_getChar_3b067_21 : decode cJ2_getChar_3b067 21 = .ok (.dup, 1) := by decide +kernel
theorem dJ2_getChar_3b067_22 : decode cJ2_getChar_3b067 22 = .ok (.ldc 54, 2) := by decide +kernel
theorem dJ2_getChar_3b067_24 : decode cJ2_getChar_3b067 24 = .ok (.invokespecial 56, 3) := by decide +kernel
theorem dJ2_getChar_3b067_27 : decode cJ2_getChar_3b067 27 = .ok (.athrow, 1) := by decide +kernel
theorem dJ2_getChar_3b067_28 : decode cJ2_getChar_3b067 28 = .ok (.iload_n 1, 1) := by decide +kernel
theorem dJ2_getChar_3b067_29 : decode cJ2_getChar_3b067 29 = .ok (.iconst 1, 1) := by decide +kernel
theorem dJ2_getChar_3b067_30 : decode cJ2_getChar_3b067 30 = .ok (.ishl, 1) := by decide +kernel
theorem dJ2_getChar_3b067_31 : decode cJ2_getChar_3b067 31 = .ok (.istore_n 1, 1) := by decide +kernel
theorem dJ2_getChar_3b067_32 : decode cJ2_getChar_3b067 32 = .ok (.aload_n 0, 1) := by decide +kernel
theorem dJ2_getChar_3b067_33 : decode cJ2_getChar_3b067 33 = .ok (.iload_n 1, 1) := by decide +kernel
theorem dJ2_getChar_3b067_34 : decode cJ2_getChar_3b067 34 = .ok (.iinc 1 1, 3) := by decide +kernel
theorem dJ2_getChar_3b067_37 : decode cJ2_getChar_3b067 37 = .ok (.baload, 1) := by decide +kernel
theorem dJ2_getChar_3b067_38 : decode cJ2_getChar_3b067 38 = .ok (.sipush 255, 3) := by decide +kernel
theorem dJ2_getChar_3b067_41 : decode cJ2_getChar_3b067 41 = .ok (.iand, 1) := by decide +kernel
theorem dJ2_getChar_3b067_42 : decode cJ2_getChar_3b067 42 = .ok (.getstatic 59, 3) := by decide +kernel
theorem dJ2_getChar_3b067_45 : decode cJ2_getChar_3b067 45 = .ok (.ishl, 1) := by decide +kernel
theorem dJ2_getChar_3b067_46 : decode cJ2_getChar_3b067 46 = .ok (.aload_n 0, 1) := by decide +kernel
theorem dJ2_getChar_3b067_47 : decode cJ2_getChar_3b067 47 = .ok (.iload_n 1, 1) := by decide +kernel
theorem dJ2_getChar_3b067_48 : decode cJ2_getChar_3b067 48 = .ok (.baload, 1) := by decide +kernel
theorem dJ2_getChar_3b067_49 : decode cJ2_getChar_3b067 49 = .ok (.sipush 255, 3) := by decide +kernel
theorem dJ2_getChar_3b067_52 : decode cJ2_getChar_3b067 52 = .ok (.iand, 1) := by decide +kernel
theorem dJ2_getChar_3b067_53 : decode cJ2_getChar_3b067 53 = .ok (.getstatic 63, 3) := by decide +kernel
theorem dJ2_getChar_3b067_56 : decode cJ2_getChar_3b067 56 = .ok (.ishl, 1) := by decide +kernel
theorem dJ2_getChar_3b067_57 : decode cJ2_getChar_3b067 57 = .ok (.ior, 1) := by decide +kernel
theorem dJ2_getChar_3b067_58 : decode cJ2_getChar_3b067 58 = .ok (.i2c, 1) := by decide +kernel
theorem dJ2_getChar_3b067_59 : decode cJ2_getChar_3b067 59 = .ok (.ireturn, 1) := by decide +kernel
theorem dJ2_length_9d52b_0 : decode cJ2_length_9d52b 0 = .ok (.aload_n 0, 1) := by decide +kernel
theorem dJ2_length_9d52b_1 : decode cJ2_length_9d52b 1 = .ok (.arraylength, 1) := by decide +kernel
theorem dJ2_length_9d52b_2 : decode cJ2_length_9d52b 2 = .ok (.iconst 1, 1) := by decide +kernel
theorem dJ2_length_9d52b_3 : decode cJ2_length_9d52b 3 = .ok (.ishr, 1) := by decide +kernel
theorem dJ2_length_9d52b_4 : decode cJ2_length_9d52b 4 = .ok (.ireturn, 1) := by decide +kernel
theorem dJ2_charAt_3b067_0 : decode cJ2_charAt_3b067 0 = .ok (.iload_n 1, 1) := by decide +kernel
theorem dJ2_charAt_3b067_1 : decode cJ2_charAt_3b067 1 = .ok (.aload_n 0, 1) := by decide +kernel
theorem dJ2_charAt_3b067_2 : decode cJ2_charAt_3b067 2 = .ok (.invokestatic 67, 3) := by decide +kernel
theorem dJ2_charAt_3b067_5 : decode cJ2_charAt_3b067 5 = .ok (.aload_n 0, 1) := by decide +kernel
theorem dJ2_charAt_3b067_6 : decode cJ2_charAt_3b067 6 = .ok (.iload_n 1, 1) := by decide +kernel
theorem dJ2_charAt_3b067_7 : decode cJ2_charAt_3b067 7 = .ok (.invokestatic 71, 3) := by decide +kernel
theorem dJ2_charAt_3b067_10 : decode cJ2_charAt_3b067 10 = .ok (.ireturn, 1) := by decide +kernel
theorem dJ2_checkIndex_2214a_0 : decode cJ2_checkIndex_2214a 0 = .ok (.iload_n 0, 1) := by decide +kernel
theorem dJ2_checkIndex_2214a_1 : decode cJ2_checkIndex_2214a 1 = .ok (.aload_n 1, 1) := by decide +kernel
theorem dJ2_checkIndex_2214a_2 : decode cJ2_checkIndex_2214a 2 = .ok (.invokestatic 48, 3) := by decide +kernel
theorem dJ2_checkIndex_2214a_5 : decode cJ2_checkIndex_2214a 5 = .ok (.invokestatic 414, 3) := by decide +kernel
theorem dJ2_checkIndex_2214a_8 : decode cJ2_checkIndex_2214a 8 = .ok (.return_, 1) := by decide +kernel
theorem dJ3_checkIndex_8e157_0 : decode cJ3_checkIndex_8e157 0 = .ok (.iload_n 0, 1) := by decide +kernel
theorem dJ3_checkIndex_8e157_1 : decode cJ3_checkIndex_8e157 1 = .ok (.ifCond .lt 8, 3) := by decide +kernel
theorem dJ3_checkIndex_8e157_4 : decode cJ3_checkIndex_8e157 4 = .ok (.iload_n 0, 1) := by decide +kernel
theorem dJ3_checkIndex_8e157_5 : decode cJ3_checkIndex_8e157 5 = .ok (.iload_n 1, 1) := by decide +kernel
theorem dJ3_checkIndex_8e157_6 : decode cJ3_checkIndex_8e157 6 = .ok (.if_icmp .lt 10, 3) := by decide +kernel
theorem dJ3_checkIndex_8e157_9 : decode cJ3_checkIndex_8e157 9 = .ok (.aload_n 2, 1) := by decide +kernel
theorem dJ3_checkIndex_8e157_10 : decode cJ3_checkIndex_8e157 10 = .ok (.iload_n 0, 1) := by decide +kernel
theorem dJ3_checkIndex_8e157_11 : decode cJ3_checkIndex_8e157 11 = .ok (.iload_n 1, 1) := by decide +kernel
theorem dJ3_checkIndex_8e157_12 : decode cJ3_checkIndex_8e157 12 = .ok (.invokestatic 95, 3) := by decide +kernel
theorem dJ3_checkIndex_8e157_15 : decode cJ3_checkIndex_8e157 15 = .ok (.athrow, 1) := by decide +kernel
theorem dJ3_checkIndex_8e157_16 : decode cJ3_checkIndex_8e157 16 = .ok (.iload_n 0, 1) := by decide +kernel
theorem dJ3_checkIndex_8e157_17 : decode cJ3_checkIndex_8e157 17 = .ok (.ireturn, 1) := by decide +kernel
