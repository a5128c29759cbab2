theorem dL_group_0 : decode cL_group 0 = .ok (.aload_n 3, 1) := by decide +kernel
theorem dL_group_1 : decode cL_group 1 = .ok (.iconst 0, 1) := by decide +kernel
theorem dL_group_2 : decode cL_group 2 = .ok (.aload_n 0, 1) := by decide +kernel
theorem dL_group_3 : decode cL_group 3 = .ok (.iload_n 1, 1) := by decide +kernel
theorem dL_group_4 : decode cL_group 4 = .ok (.iload_n 2, 1) := by decide +kernel
theorem dL_group_5 : decode cL_group 5 = .ok (.invokevirtual 7, 3) := by decide +kernel
theorem dL_group_8 : decode cL_group 8 = .ok (.i2l, 1) := by decide +kernel
theorem dL_group_9 : decode cL_group 9 = .ok (.lastore, 1) := by decide +kernel
theorem dL_group_10 : decode cL_group 10 = .ok (.goto 7, 3) := by decide +kernel
theorem dL_group_13 : decode cL_group 13 = .ok (.astore 4, 2) := by decide +kernel
theorem dL_group_15 : decode cL_group 15 = .ok (.iconst 1, 1) := by decide +kernel
theorem dL_group_16 : decode cL_group 16 = .ok (.ireturn, 1) := by decide +kernel
theorem dL_group_17 : decode cL_group 17 = .ok (.iconst 0, 1) := by decide +kernel
theorem dL_group_18 : decode cL_group 18 = .ok (.ireturn, 1) := by decide +kernel
theorem dL_value_0 : decode cL_value 0 = .ok (.aload 4, 2) := by decide +kernel
theorem dL_value_2 : decode cL_value 2 = .ok (.iconst 0, 1) := by decide +kernel
theorem dL_value_3 : decode cL_value 3 = .ok (.aload_n 0, 1) := by decide +kernel
theorem dL_value_4 : decode cL_value 4 = .ok (.iload_n 1, 1) := by decide +kernel
theorem dL_value_5 : decode cL_value 5 = .ok (.iload_n 2, 1) := by decide +kernel
theorem dL_value_6 : decode cL_value 6 = .ok (.iload_n 3, 1) := by decide +kernel
theorem dL_value_7 : decode cL_value 7 = .ok (.invokevirtual 15, 3) := by decide +kernel
theorem dL_value_10 : decode cL_value 10 = .ok (.i2l, 1) := by decide +kernel
theorem dL_value_11 : decode cL_value 11 = .ok (.lastore, 1) := by decide +kernel
theorem dL_value_12 : decode cL_value 12 = .ok (.goto 11, 3) := by decide +kernel
theorem dL_value_15 : decode cL_value 15 = .ok (.astore 5, 2) := by decide +kernel
theorem dL_value_17 : decode cL_value 17 = .ok (.iconst 1, 1) := by decide +kernel
theorem dL_value_18 : decode cL_value 18 = .ok (.ireturn, 1) := by decide +kernel
theorem dL_value_19 : decode cL_value 19 = .ok (.astore 5, 2) := by decide +kernel
theorem dL_value_21 : decode cL_value 21 = .ok (.iconst 2, 1) := by decide +kernel
theorem dL_value_22 : decode cL_value 22 = .ok (.ireturn, 1) := by decide +kernel
theorem dL_value_23 : decode cL_value 23 = .ok (.iconst 0, 1) := by decide +kernel
theorem dL_value_24 : decode cL_value 24 = .ok (.ireturn, 1) := by decide +kernel
theorem dL_missing_0 : decode cL_missing 0 = .ok (.aload_n 3, 1) := by decide +kernel
theorem dL_missing_1 : decode cL_missing 1 = .ok (.iconst 0, 1) := by decide +kernel
theorem dL_missing_2 : decode cL_missing 2 = .ok (.aload_n 0, 1) := by decide +kernel
theorem dL_missing_3 : decode cL_missing 3 = .ok (.iload_n 1, 1) := by decide +kernel
theorem dL_missing_4 : decode cL_missing 4 = .ok (.iload_n 2, 1) := by decide +kernel
theorem dL_missing_5 : decode cL_missing 5 = .ok (.invokevirtual 21, 3) := by decide +kernel
theorem dL_missing_8 : decode cL_missing 8 = .ok (.i2l, 1) := by decide +kernel
theorem dL_missing_9 : decode cL_missing 9 = .ok (.lastore, 1) := by decide +kernel
theorem dL_missing_10 : decode cL_missing 10 = .ok (.goto 7, 3) := by decide +kernel
theorem dL_missing_13 : decode cL_missing 13 = .ok (.astore 4, 2) := by decide +kernel
theorem dL_missing_15 : decode cL_missing 15 = .ok (.iconst 1, 1) := by decide +kernel
theorem dL_missing_16 : decode cL_missing 16 = .ok (.ireturn, 1) := by decide +kernel
theorem dL_missing_17 : decode cL_missing 17 = .ok (.iconst 0, 1) := by decide +kernel
theorem dL_missing_18 : decode cL_missing 18 = .ok (.ireturn, 1) := by decide +kernel
theorem dL_lies_0 : decode cL_lies 0 = .ok (.aload_n 2, 1) := by decide +kernel
theorem dL_lies_1 : decode cL_lies 1 = .ok (.iconst 0, 1) := by decide +kernel
theorem dL_lies_2 : decode cL_lies 2 = .ok (.aload_n 0, 1) := by decide +kernel
theorem dL_lies_3 : decode cL_lies 3 = .ok (.iload_n 1, 1) := by decide +kernel
theorem dL_lies_4 : decode cL_lies 4 = .ok (.invokevirtual 24, 3) := by decide +kernel
theorem dL_lies_7 : decode cL_lies 7 = .ok (.i2l, 1) := by decide +kernel
theorem dL_lies_8 : decode cL_lies 8 = .ok (.lastore, 1) := by decide +kernel
theorem dL_lies_9 : decode cL_lies 9 = .ok (.goto 6, 3) := by decide +kernel
theorem dL_lies_12 : decode cL_lies 12 = .ok (.astore_n 3, 1) := by decide +kernel
theorem dL_lies_13 : decode cL_lies 13 = .ok (.iconst 1, 1) := by decide +kernel
theorem dL_lies_14 : decode cL_lies 14 = .ok (.ireturn, 1) := by decide +kernel
theorem dL_lies_15 : decode cL_lies 15 = .ok (.iconst 0, 1) := by decide +kernel
theorem dL_lies_16 : decode cL_lies 16 = .ok (.ireturn, 1) := by decide +kernel
theorem dL_run_0 : decode cL_run 0 = .ok (.aload_n 2, 1) := by decide +kernel
theorem dL_run_1 : decode cL_run 1 = .ok (.iconst 0, 1) := by decide +kernel
theorem dL_run_2 : decode cL_run 2 = .ok (.aload_n 0, 1) := by decide +kernel
theorem dL_run_3 : decode cL_run 3 = .ok (.iload_n 1, 1) := by decide +kernel
theorem dL_run_4 : decode cL_run 4 = .ok (.invokevirtual 28, 3) := by decide +kernel
theorem dL_run_7 : decode cL_run 7 = .ok (.i2l, 1) := by decide +kernel
theorem dL_run_8 : decode cL_run 8 = .ok (.lastore, 1) := by decide +kernel
theorem dL_run_9 : decode cL_run 9 = .ok (.goto 6, 3) := by decide +kernel
theorem dL_run_12 : decode cL_run 12 = .ok (.astore_n 3, 1) := by decide +kernel
theorem dL_run_13 : decode cL_run 13 = .ok (.iconst 1, 1) := by decide +kernel
theorem dL_run_14 : decode cL_run 14 = .ok (.ireturn, 1) := by decide +kernel
theorem dL_run_15 : decode cL_run 15 = .ok (.iconst 0, 1) := by decide +kernel
theorem dL_run_16 : decode cL_run 16 = .ok (.ireturn, 1) := by decide +kernel
theorem dL_told_0 : decode cL_told 0 = .ok (.aload_n 2, 1) := by decide +kernel
theorem dL_told_1 : decode cL_told 1 = .ok (.iconst 0, 1) := by decide +kernel
theorem dL_told_2 : decode cL_told 2 = .ok (.aload_n 0, 1) := by decide +kernel
theorem dL_told_3 : decode cL_told 3 = .ok (.iload_n 1, 1) := by decide +kernel
theorem dL_told_4 : decode cL_told 4 = .ok (.invokevirtual 31, 3) := by decide +kernel
theorem dL_told_7 : decode cL_told 7 = .ok (.i2l, 1) := by decide +kernel
theorem dL_told_8 : decode cL_told 8 = .ok (.lastore, 1) := by decide +kernel
theorem dL_told_9 : decode cL_told 9 = .ok (.goto 6, 3) := by decide +kernel
theorem dL_told_12 : decode cL_told 12 = .ok (.astore_n 3, 1) := by decide +kernel
theorem dL_told_13 : decode cL_told 13 = .ok (.iconst 1, 1) := by decide +kernel
theorem dL_told_14 : decode cL_told 14 = .ok (.ireturn, 1) := by decide +kernel
theorem dL_told_15 : decode cL_told 15 = .ok (.iconst 0, 1) := by decide +kernel
theorem dL_told_16 : decode cL_told 16 = .ok (.ireturn, 1) := by decide +kernel
theorem dL_member_0 : decode cL_member 0 = .ok (.aload_n 3, 1) := by decide +kernel
theorem dL_member_1 : decode cL_member 1 = .ok (.iconst 0, 1) := by decide +kernel
theorem dL_member_2 : decode cL_member 2 = .ok (.aload_n 0, 1) := by decide +kernel
theorem dL_member_3 : decode cL_member 3 = .ok (.iload_n 1, 1) := by decide +kernel
theorem dL_member_4 : decode cL_member 4 = .ok (.iload_n 2, 1) := by decide +kernel
theorem dL_member_5 : decode cL_member 5 = .ok (.invokevirtual 34, 3) := by decide +kernel
theorem dL_member_8 : decode cL_member 8 = .ok (.i2l, 1) := by decide +kernel
theorem dL_member_9 : decode cL_member 9 = .ok (.lastore, 1) := by decide +kernel
theorem dL_member_10 : decode cL_member 10 = .ok (.goto 11, 3) := by decide +kernel
theorem dL_member_13 : decode cL_member 13 = .ok (.astore 4, 2) := by decide +kernel
theorem dL_member_15 : decode cL_member 15 = .ok (.iconst 1, 1) := by decide +kernel
theorem dL_member_16 : decode cL_member 16 = .ok (.ireturn, 1) := by decide +kernel
theorem dL_member_17 : decode cL_member 17 = .ok (.astore 4, 2) := by decide +kernel
theorem dL_member_19 : decode cL_member 19 = .ok (.iconst 2, 1) := by decide +kernel
theorem dL_member_20 : decode cL_member 20 = .ok (.ireturn, 1) := by decide +kernel
theorem dL_member_21 : decode cL_member 21 = .ok (.iconst 0, 1) := by decide +kernel
theorem dL_member_22 : decode cL_member 22 = .ok (.ireturn, 1) := by decide +kernel
theorem dL_heard_0 : decode cL_heard 0 = .ok (.aload 6, 2) := by decide +kernel
theorem dL_heard_2 : decode cL_heard 2 = .ok (.iconst 0, 1) := by decide +kernel
theorem dL_heard_3 : decode cL_heard 3 = .ok (.aload_n 0, 1) := by decide +kernel
theorem dL_heard_4 : decode cL_heard 4 = .ok (.iload_n 1, 1) := by decide +kernel
theorem dL_heard_5 : decode cL_heard 5 = .ok (.iload_n 2, 1) := by decide +kernel
theorem dL_heard_6 : decode cL_heard 6 = .ok (.iload_n 3, 1) := by decide +kernel
theorem dL_heard_7 : decode cL_heard 7 = .ok (.iload 4, 2) := by decide +kernel
theorem dL_heard_9 : decode cL_heard 9 = .ok (.iload 5, 2) := by decide +kernel
theorem dL_heard_11 : decode cL_heard 11 = .ok (.invokevirtual 37, 3) := by decide +kernel
theorem dL_heard_14 : decode cL_heard 14 = .ok (.i2l, 1) := by decide +kernel
theorem dL_heard_15 : decode cL_heard 15 = .ok (.lastore, 1) := by decide +kernel
theorem dL_heard_16 : decode cL_heard 16 = .ok (.goto 11, 3) := by decide +kernel
theorem dL_heard_19 : decode cL_heard 19 = .ok (.astore 7, 2) := by decide +kernel
theorem dL_heard_21 : decode cL_heard 21 = .ok (.iconst 1, 1) := by decide +kernel
theorem dL_heard_22 : decode cL_heard 22 = .ok (.ireturn, 1) := by decide +kernel
theorem dL_heard_23 : decode cL_heard 23 = .ok (.astore 7, 2) := by decide +kernel
theorem dL_heard_25 : decode cL_heard 25 = .ok (.iconst 2, 1) := by decide +kernel
theorem dL_heard_26 : decode cL_heard 26 = .ok (.ireturn, 1) := by decide +kernel
theorem dL_heard_27 : decode cL_heard 27 = .ok (.iconst 0, 1) := by decide +kernel
theorem dL_heard_28 : decode cL_heard 28 = .ok (.ireturn, 1) := by decide +kernel
theorem dL_cut_0 : decode cL_cut 0 = .ok (.aload_n 3, 1) := by decide +kernel
theorem dL_cut_1 : decode cL_cut 1 = .ok (.iconst 0, 1) := by decide +kernel
theorem dL_cut_2 : decode cL_cut 2 = .ok (.aload_n 0, 1) := by decide +kernel
theorem dL_cut_3 : decode cL_cut 3 = .ok (.iload_n 1, 1) := by decide +kernel
theorem dL_cut_4 : decode cL_cut 4 = .ok (.iload_n 2, 1) := by decide +kernel
theorem dL_cut_5 : decode cL_cut 5 = .ok (.invokevirtual 41, 3) := by decide +kernel
theorem dL_cut_8 : decode cL_cut 8 = .ok (.i2l, 1) := by decide +kernel
theorem dL_cut_9 : decode cL_cut 9 = .ok (.lastore, 1) := by decide +kernel
theorem dL_cut_10 : decode cL_cut 10 = .ok (.goto 11, 3) := by decide +kernel
theorem dL_cut_13 : decode cL_cut 13 = .ok (.astore 4, 2) := by decide +kernel
theorem dL_cut_15 : decode cL_cut 15 = .ok (.iconst 1, 1) := by decide +kernel
theorem dL_cut_16 : decode cL_cut 16 = .ok (.ireturn, 1) := by decide +kernel
theorem dL_cut_17 : decode cL_cut 17 = .ok (.astore 4, 2) := by decide +kernel
theorem dL_cut_19 : decode cL_cut 19 = .ok (.iconst 2, 1) := by decide +kernel
theorem dL_cut_20 : decode cL_cut 20 = .ok (.ireturn, 1) := by decide +kernel
theorem dL_cut_21 : decode cL_cut 21 = .ok (.iconst 0, 1) := by decide +kernel
theorem dL_cut_22 : decode cL_cut 22 = .ok (.ireturn, 1) := by decide +kernel
theorem dL_common_0 : decode cL_common 0 = .ok (.aload 4, 2) := by decide +kernel
theorem dL_common_2 : decode cL_common 2 = .ok (.iconst 0, 1) := by decide +kernel
theorem dL_common_3 : decode cL_common 3 = .ok (.aload_n 0, 1) := by decide +kernel
theorem dL_common_4 : decode cL_common 4 = .ok (.iload_n 1, 1) := by decide +kernel
theorem dL_common_5 : decode cL_common 5 = .ok (.iload_n 2, 1) := by decide +kernel
theorem dL_common_6 : decode cL_common 6 = .ok (.iload_n 3, 1) := by decide +kernel
theorem dL_common_7 : decode cL_common 7 = .ok (.invokevirtual 44, 3) := by decide +kernel
theorem dL_common_10 : decode cL_common 10 = .ok (.ifCond .eq 7, 3) := by decide +kernel
theorem dL_common_13 : decode cL_common 13 = .ok (.lconst 1, 1) := by decide +kernel
theorem dL_common_14 : decode cL_common 14 = .ok (.goto 4, 3) := by decide +kernel
theorem dL_common_17 : decode cL_common 17 = .ok (.lconst 0, 1) := by decide +kernel
theorem dL_common_18 : decode cL_common 18 = .ok (.lastore, 1) := by decide +kernel
theorem dL_common_19 : decode cL_common 19 = .ok (.goto 7, 3) := by decide +kernel
theorem dL_common_22 : decode cL_common 22 = .ok (.astore 5, 2) := by decide +kernel
theorem dL_common_24 : decode cL_common 24 = .ok (.iconst 1, 1) := by decide +kernel
theorem dL_common_25 : decode cL_common 25 = .ok (.ireturn, 1) := by decide +kernel
theorem dL_common_26 : decode cL_common 26 = .ok (.iconst 0, 1) := by decide +kernel
theorem dL_common_27 : decode cL_common 27 = .ok (.ireturn, 1) := by decide +kernel
theorem dL_commons_0 : decode cL_commons 0 = .ok (.aload_n 2, 1) := by decide +kernel
theorem dL_commons_1 : decode cL_commons 1 = .ok (.iconst 0, 1) := by decide +kernel
theorem dL_commons_2 : decode cL_commons 2 = .ok (.aload_n 0, 1) := by decide +kernel
theorem dL_commons_3 : decode cL_commons 3 = .ok (.iload_n 1, 1) := by decide +kernel
theorem dL_commons_4 : decode cL_commons 4 = .ok (.invokevirtual 48, 3) := by decide +kernel
theorem dL_commons_7 : decode cL_commons 7 = .ok (.i2l, 1) := by decide +kernel
theorem dL_commons_8 : decode cL_commons 8 = .ok (.lastore, 1) := by decide +kernel
theorem dL_commons_9 : decode cL_commons 9 = .ok (.goto 6, 3) := by decide +kernel
theorem dL_commons_12 : decode cL_commons 12 = .ok (.astore_n 3, 1) := by decide +kernel
theorem dL_commons_13 : decode cL_commons 13 = .ok (.iconst 1, 1) := by decide +kernel
theorem dL_commons_14 : decode cL_commons 14 = .ok (.ireturn, 1) := by decide +kernel
theorem dL_commons_15 : decode cL_commons 15 = .ok (.iconst 0, 1) := by decide +kernel
theorem dL_commons_16 : decode cL_commons 16 = .ok (.ireturn, 1) := by decide +kernel
theorem dL_agreed_0 : decode cL_agreed 0 = .ok (.aload_n 2, 1) := by decide +kernel
theorem dL_agreed_1 : decode cL_agreed 1 = .ok (.iconst 0, 1) := by decide +kernel
theorem dL_agreed_2 : decode cL_agreed 2 = .ok (.aload_n 0, 1) := by decide +kernel
theorem dL_agreed_3 : decode cL_agreed 3 = .ok (.iload_n 1, 1) := by decide +kernel
theorem dL_agreed_4 : decode cL_agreed 4 = .ok (.invokevirtual 51, 3) := by decide +kernel
theorem dL_agreed_7 : decode cL_agreed 7 = .ok (.ifCond .eq 7, 3) := by decide +kernel
theorem dL_agreed_10 : decode cL_agreed 10 = .ok (.lconst 1, 1) := by decide +kernel
theorem dL_agreed_11 : decode cL_agreed 11 = .ok (.goto 4, 3) := by decide +kernel
theorem dL_agreed_14 : decode cL_agreed 14 = .ok (.lconst 0, 1) := by decide +kernel
theorem dL_agreed_15 : decode cL_agreed 15 = .ok (.lastore, 1) := by decide +kernel
theorem dL_agreed_16 : decode cL_agreed 16 = .ok (.goto 6, 3) := by decide +kernel
theorem dL_agreed_19 : decode cL_agreed 19 = .ok (.astore_n 3, 1) := by decide +kernel
theorem dL_agreed_20 : decode cL_agreed 20 = .ok (.iconst 1, 1) := by decide +kernel
theorem dL_agreed_21 : decode cL_agreed 21 = .ok (.ireturn, 1) := by decide +kernel
theorem dL_agreed_22 : decode cL_agreed 22 = .ok (.iconst 0, 1) := by decide +kernel
theorem dL_agreed_23 : decode cL_agreed 23 = .ok (.ireturn, 1) := by decide +kernel
theorem dL_order_0 : decode cL_order 0 = .ok (.aload_n 3, 1) := by decide +kernel
theorem dL_order_1 : decode cL_order 1 = .ok (.iconst 0, 1) := by decide +kernel
theorem dL_order_2 : decode cL_order 2 = .ok (.aload_n 0, 1) := by decide +kernel
theorem dL_order_3 : decode cL_order 3 = .ok (.iload_n 1, 1) := by decide +kernel
theorem dL_order_4 : decode cL_order 4 = .ok (.iload_n 2, 1) := by decide +kernel
theorem dL_order_5 : decode cL_order 5 = .ok (.invokevirtual 55, 3) := by decide +kernel
theorem dL_order_8 : decode cL_order 8 = .ok (.i2l, 1) := by decide +kernel
theorem dL_order_9 : decode cL_order 9 = .ok (.lastore, 1) := by decide +kernel
theorem dL_order_10 : decode cL_order 10 = .ok (.goto 7, 3) := by decide +kernel
theorem dL_order_13 : decode cL_order 13 = .ok (.astore 4, 2) := by decide +kernel
theorem dL_order_15 : decode cL_order 15 = .ok (.iconst 1, 1) := by decide +kernel
theorem dL_order_16 : decode cL_order 16 = .ok (.ireturn, 1) := by decide +kernel
theorem dL_order_17 : decode cL_order 17 = .ok (.iconst 0, 1) := by decide +kernel
theorem dL_order_18 : decode cL_order 18 = .ok (.ireturn, 1) := by decide +kernel
theorem dL_most_0 : decode cL_most 0 = .ok (.aload_n 3, 1) := by decide +kernel
theorem dL_most_1 : decode cL_most 1 = .ok (.iconst 0, 1) := by decide +kernel
theorem dL_most_2 : decode cL_most 2 = .ok (.aload_n 0, 1) := by decide +kernel
theorem dL_most_3 : decode cL_most 3 = .ok (.iload_n 1, 1) := by decide +kernel
theorem dL_most_4 : decode cL_most 4 = .ok (.iload_n 2, 1) := by decide +kernel
theorem dL_most_5 : decode cL_most 5 = .ok (.invokevirtual 58, 3) := by decide +kernel
theorem dL_most_8 : decode cL_most 8 = .ok (.i2l, 1) := by decide +kernel
theorem dL_most_9 : decode cL_most 9 = .ok (.lastore, 1) := by decide +kernel
theorem dL_most_10 : decode cL_most 10 = .ok (.goto 11, 3) := by decide +kernel
theorem dL_most_13 : decode cL_most 13 = .ok (.astore 4, 2) := by decide +kernel
theorem dL_most_15 : decode cL_most 15 = .ok (.iconst 1, 1) := by decide +kernel
theorem dL_most_16 : decode cL_most 16 = .ok (.ireturn, 1) := by decide +kernel
theorem dL_most_17 : decode cL_most 17 = .ok (.astore 4, 2) := by decide +kernel
theorem dL_most_19 : decode cL_most 19 = .ok (.iconst 2, 1) := by decide +kernel
theorem dL_most_20 : decode cL_most 20 = .ok (.ireturn, 1) := by decide +kernel
theorem dL_most_21 : decode cL_most 21 = .ok (.iconst 0, 1) := by decide +kernel
theorem dL_most_22 : decode cL_most 22 = .ok (.ireturn, 1) := by decide +kernel
theorem dL_signed_0 : decode cL_signed 0 = .ok (.aload_n 3, 1) := by decide +kernel
theorem dL_signed_1 : decode cL_signed 1 = .ok (.iconst 0, 1) := by decide +kernel
theorem dL_signed_2 : decode cL_signed 2 = .ok (.aload_n 0, 1) := by decide +kernel
theorem dL_signed_3 : decode cL_signed 3 = .ok (.iload_n 1, 1) := by decide +kernel
theorem dL_signed_4 : decode cL_signed 4 = .ok (.iload_n 2, 1) := by decide +kernel
theorem dL_signed_5 : decode cL_signed 5 = .ok (.invokevirtual 61, 3) := by decide +kernel
theorem dL_signed_8 : decode cL_signed 8 = .ok (.i2l, 1) := by decide +kernel
theorem dL_signed_9 : decode cL_signed 9 = .ok (.lastore, 1) := by decide +kernel
theorem dL_signed_10 : decode cL_signed 10 = .ok (.goto 11, 3) := by decide +kernel
theorem dL_signed_13 : decode cL_signed 13 = .ok (.astore 4, 2) := by decide +kernel
theorem dL_signed_15 : decode cL_signed 15 = .ok (.iconst 1, 1) := by decide +kernel
theorem dL_signed_16 : decode cL_signed 16 = .ok (.ireturn, 1) := by decide +kernel
theorem dL_signed_17 : decode cL_signed 17 = .ok (.astore 4, 2) := by decide +kernel
theorem dL_signed_19 : decode cL_signed 19 = .ok (.iconst 2, 1) := by decide +kernel
theorem dL_signed_20 : decode cL_signed 20 = .ok (.ireturn, 1) := by decide +kernel
theorem dL_signed_21 : decode cL_signed 21 = .ok (.iconst 0, 1) := by decide +kernel
theorem dL_signed_22 : decode cL_signed 22 = .ok (.ireturn, 1) := by decide +kernel
theorem dL_signedOf_0 : decode cL_signedOf 0 = .ok (.aload 4, 2) := by decide +kernel
theorem dL_signedOf_2 : decode cL_signedOf 2 = .ok (.iconst 0, 1) := by decide +kernel
theorem dL_signedOf_3 : decode cL_signedOf 3 = .ok (.aload_n 0, 1) := by decide +kernel
theorem dL_signedOf_4 : decode cL_signedOf 4 = .ok (.iload_n 1, 1) := by decide +kernel
theorem dL_signedOf_5 : decode cL_signedOf 5 = .ok (.iload_n 2, 1) := by decide +kernel
theorem dL_signedOf_6 : decode cL_signedOf 6 = .ok (.iload_n 3, 1) := by decide +kernel
theorem dL_signedOf_7 : decode cL_signedOf 7 = .ok (.invokevirtual 64, 3) := by decide +kernel
theorem dL_signedOf_10 : decode cL_signedOf 10 = .ok (.i2l, 1) := by decide +kernel
theorem dL_signedOf_11 : decode cL_signedOf 11 = .ok (.lastore, 1) := by decide +kernel
theorem dL_signedOf_12 : decode cL_signedOf 12 = .ok (.goto 11, 3) := by decide +kernel
theorem dL_signedOf_15 : decode cL_signedOf 15 = .ok (.astore 5, 2) := by decide +kernel
theorem dL_signedOf_17 : decode cL_signedOf 17 = .ok (.iconst 1, 1) := by decide +kernel
theorem dL_signedOf_18 : decode cL_signedOf 18 = .ok (.ireturn, 1) := by decide +kernel
theorem dL_signedOf_19 : decode cL_signedOf 19 = .ok (.astore 5, 2) := by decide +kernel
theorem dL_signedOf_21 : decode cL_signedOf 21 = .ok (.iconst 2, 1) := by decide +kernel
theorem dL_signedOf_22 : decode cL_signedOf 22 = .ok (.ireturn, 1) := by decide +kernel
theorem dL_signedOf_23 : decode cL_signedOf 23 = .ok (.iconst 0, 1) := by decide +kernel
theorem dL_signedOf_24 : decode cL_signedOf 24 = .ok (.ireturn, 1) := by decide +kernel
theorem dL_taken_0 : decode cL_taken 0 = .ok (.aload 5, 2) := by decide +kernel
theorem dL_taken_2 : decode cL_taken 2 = .ok (.iconst 0, 1) := by decide +kernel
theorem dL_taken_3 : decode cL_taken 3 = .ok (.aload_n 0, 1) := by decide +kernel
theorem dL_taken_4 : decode cL_taken 4 = .ok (.iload_n 1, 1) := by decide +kernel
theorem dL_taken_5 : decode cL_taken 5 = .ok (.iload_n 2, 1) := by decide +kernel
theorem dL_taken_6 : decode cL_taken 6 = .ok (.iload_n 3, 1) := by decide +kernel
theorem dL_taken_7 : decode cL_taken 7 = .ok (.iload 4, 2) := by decide +kernel
theorem dL_taken_9 : decode cL_taken 9 = .ok (.invokevirtual 67, 3) := by decide +kernel
theorem dL_taken_12 : decode cL_taken 12 = .ok (.i2l, 1) := by decide +kernel
theorem dL_taken_13 : decode cL_taken 13 = .ok (.lastore, 1) := by decide +kernel
theorem dL_taken_14 : decode cL_taken 14 = .ok (.goto 11, 3) := by decide +kernel
theorem dL_taken_17 : decode cL_taken 17 = .ok (.astore 6, 2) := by decide +kernel
theorem dL_taken_19 : decode cL_taken 19 = .ok (.iconst 1, 1) := by decide +kernel
theorem dL_taken_20 : decode cL_taken 20 = .ok (.ireturn, 1) := by decide +kernel
theorem dL_taken_21 : decode cL_taken 21 = .ok (.astore 6, 2) := by decide +kernel
theorem dL_taken_23 : decode cL_taken 23 = .ok (.iconst 2, 1) := by decide +kernel
theorem dL_taken_24 : decode cL_taken 24 = .ok (.ireturn, 1) := by decide +kernel
theorem dL_taken_25 : decode cL_taken 25 = .ok (.iconst 0, 1) := by decide +kernel
theorem dL_taken_26 : decode cL_taken 26 = .ok (.ireturn, 1) := by decide +kernel
theorem dL_king_0 : decode cL_king 0 = .ok (.aload_n 3, 1) := by decide +kernel
theorem dL_king_1 : decode cL_king 1 = .ok (.iconst 0, 1) := by decide +kernel
theorem dL_king_2 : decode cL_king 2 = .ok (.aload_n 0, 1) := by decide +kernel
theorem dL_king_3 : decode cL_king 3 = .ok (.iload_n 1, 1) := by decide +kernel
theorem dL_king_4 : decode cL_king 4 = .ok (.iload_n 2, 1) := by decide +kernel
theorem dL_king_5 : decode cL_king 5 = .ok (.invokevirtual 71, 3) := by decide +kernel
theorem dL_king_8 : decode cL_king 8 = .ok (.i2l, 1) := by decide +kernel
theorem dL_king_9 : decode cL_king 9 = .ok (.lastore, 1) := by decide +kernel
theorem dL_king_10 : decode cL_king 10 = .ok (.goto 11, 3) := by decide +kernel
theorem dL_king_13 : decode cL_king 13 = .ok (.astore 4, 2) := by decide +kernel
theorem dL_king_15 : decode cL_king 15 = .ok (.iconst 1, 1) := by decide +kernel
theorem dL_king_16 : decode cL_king 16 = .ok (.ireturn, 1) := by decide +kernel
theorem dL_king_17 : decode cL_king 17 = .ok (.astore 4, 2) := by decide +kernel
theorem dL_king_19 : decode cL_king 19 = .ok (.iconst 2, 1) := by decide +kernel
theorem dL_king_20 : decode cL_king 20 = .ok (.ireturn, 1) := by decide +kernel
theorem dL_king_21 : decode cL_king 21 = .ok (.iconst 0, 1) := by decide +kernel
theorem dL_king_22 : decode cL_king 22 = .ok (.ireturn, 1) := by decide +kernel
theorem dL_kings_0 : decode cL_kings 0 = .ok (.aload_n 2, 1) := by decide +kernel
theorem dL_kings_1 : decode cL_kings 1 = .ok (.iconst 0, 1) := by decide +kernel
theorem dL_kings_2 : decode cL_kings 2 = .ok (.aload_n 0, 1) := by decide +kernel
theorem dL_kings_3 : decode cL_kings 3 = .ok (.iload_n 1, 1) := by decide +kernel
theorem dL_kings_4 : decode cL_kings 4 = .ok (.invokevirtual 74, 3) := by decide +kernel
theorem dL_kings_7 : decode cL_kings 7 = .ok (.i2l, 1) := by decide +kernel
theorem dL_kings_8 : decode cL_kings 8 = .ok (.lastore, 1) := by decide +kernel
theorem dL_kings_9 : decode cL_kings 9 = .ok (.goto 6, 3) := by decide +kernel
theorem dL_kings_12 : decode cL_kings 12 = .ok (.astore_n 3, 1) := by decide +kernel
theorem dL_kings_13 : decode cL_kings 13 = .ok (.iconst 1, 1) := by decide +kernel
theorem dL_kings_14 : decode cL_kings 14 = .ok (.ireturn, 1) := by decide +kernel
theorem dL_kings_15 : decode cL_kings 15 = .ok (.iconst 0, 1) := by decide +kernel
theorem dL_kings_16 : decode cL_kings 16 = .ok (.ireturn, 1) := by decide +kernel
theorem dL_echoes_0 : decode cL_echoes 0 = .ok (.aload_n 3, 1) := by decide +kernel
theorem dL_echoes_1 : decode cL_echoes 1 = .ok (.iconst 0, 1) := by decide +kernel
theorem dL_echoes_2 : decode cL_echoes 2 = .ok (.aload_n 0, 1) := by decide +kernel
theorem dL_echoes_3 : decode cL_echoes 3 = .ok (.iload_n 1, 1) := by decide +kernel
theorem dL_echoes_4 : decode cL_echoes 4 = .ok (.iload_n 2, 1) := by decide +kernel
theorem dL_echoes_5 : decode cL_echoes 5 = .ok (.invokevirtual 77, 3) := by decide +kernel
theorem dL_echoes_8 : decode cL_echoes 8 = .ok (.i2l, 1) := by decide +kernel
theorem dL_echoes_9 : decode cL_echoes 9 = .ok (.lastore, 1) := by decide +kernel
theorem dL_echoes_10 : decode cL_echoes 10 = .ok (.goto 11, 3) := by decide +kernel
theorem dL_echoes_13 : decode cL_echoes 13 = .ok (.astore 4, 2) := by decide +kernel
theorem dL_echoes_15 : decode cL_echoes 15 = .ok (.iconst 1, 1) := by decide +kernel
theorem dL_echoes_16 : decode cL_echoes 16 = .ok (.ireturn, 1) := by decide +kernel
theorem dL_echoes_17 : decode cL_echoes 17 = .ok (.astore 4, 2) := by decide +kernel
theorem dL_echoes_19 : decode cL_echoes 19 = .ok (.iconst 2, 1) := by decide +kernel
theorem dL_echoes_20 : decode cL_echoes 20 = .ok (.ireturn, 1) := by decide +kernel
theorem dL_echoes_21 : decode cL_echoes 21 = .ok (.iconst 0, 1) := by decide +kernel
theorem dL_echoes_22 : decode cL_echoes 22 = .ok (.ireturn, 1) := by decide +kernel
theorem dL_echoesOf_0 : decode cL_echoesOf 0 = .ok (.aload 4, 2) := by decide +kernel
theorem dL_echoesOf_2 : decode cL_echoesOf 2 = .ok (.iconst 0, 1) := by decide +kernel
theorem dL_echoesOf_3 : decode cL_echoesOf 3 = .ok (.aload_n 0, 1) := by decide +kernel
theorem dL_echoesOf_4 : decode cL_echoesOf 4 = .ok (.iload_n 1, 1) := by decide +kernel
theorem dL_echoesOf_5 : decode cL_echoesOf 5 = .ok (.iload_n 2, 1) := by decide +kernel
theorem dL_echoesOf_6 : decode cL_echoesOf 6 = .ok (.iload_n 3, 1) := by decide +kernel
theorem dL_echoesOf_7 : decode cL_echoesOf 7 = .ok (.invokevirtual 80, 3) := by decide +kernel
theorem dL_echoesOf_10 : decode cL_echoesOf 10 = .ok (.i2l, 1) := by decide +kernel
theorem dL_echoesOf_11 : decode cL_echoesOf 11 = .ok (.lastore, 1) := by decide +kernel
theorem dL_echoesOf_12 : decode cL_echoesOf 12 = .ok (.goto 11, 3) := by decide +kernel
theorem dL_echoesOf_15 : decode cL_echoesOf 15 = .ok (.astore 5, 2) := by decide +kernel
theorem dL_echoesOf_17 : decode cL_echoesOf 17 = .ok (.iconst 1, 1) := by decide +kernel
theorem dL_echoesOf_18 : decode cL_echoesOf 18 = .ok (.ireturn, 1) := by decide +kernel
theorem dL_echoesOf_19 : decode cL_echoesOf 19 = .ok (.astore 5, 2) := by decide +kernel
theorem dL_echoesOf_21 : decode cL_echoesOf 21 = .ok (.iconst 2, 1) := by decide +kernel
theorem dL_echoesOf_22 : decode cL_echoesOf 22 = .ok (.ireturn, 1) := by decide +kernel
theorem dL_echoesOf_23 : decode cL_echoesOf 23 = .ok (.iconst 0, 1) := by decide +kernel
theorem dL_echoesOf_24 : decode cL_echoesOf 24 = .ok (.ireturn, 1) := by decide +kernel
theorem dL_messages_0 : decode cL_messages 0 = .ok (.aload_n 3, 1) := by decide +kernel
theorem dL_messages_1 : decode cL_messages 1 = .ok (.iconst 0, 1) := by decide +kernel
theorem dL_messages_2 : decode cL_messages 2 = .ok (.aload_n 0, 1) := by decide +kernel
theorem dL_messages_3 : decode cL_messages 3 = .ok (.iload_n 1, 1) := by decide +kernel
theorem dL_messages_4 : decode cL_messages 4 = .ok (.iload_n 2, 1) := by decide +kernel
theorem dL_messages_5 : decode cL_messages 5 = .ok (.invokevirtual 83, 3) := by decide +kernel
theorem dL_messages_8 : decode cL_messages 8 = .ok (.i2l, 1) := by decide +kernel
theorem dL_messages_9 : decode cL_messages 9 = .ok (.lastore, 1) := by decide +kernel
theorem dL_messages_10 : decode cL_messages 10 = .ok (.goto 7, 3) := by decide +kernel
theorem dL_messages_13 : decode cL_messages 13 = .ok (.astore 4, 2) := by decide +kernel
theorem dL_messages_15 : decode cL_messages 15 = .ok (.iconst 1, 1) := by decide +kernel
theorem dL_messages_16 : decode cL_messages 16 = .ok (.ireturn, 1) := by decide +kernel
theorem dL_messages_17 : decode cL_messages 17 = .ok (.iconst 0, 1) := by decide +kernel
theorem dL_messages_18 : decode cL_messages 18 = .ok (.ireturn, 1) := by decide +kernel
theorem dL_nearer_0 : decode cL_nearer 0 = .ok (.aload 4, 2) := by decide +kernel
theorem dL_nearer_2 : decode cL_nearer 2 = .ok (.iconst 0, 1) := by decide +kernel
theorem dL_nearer_3 : decode cL_nearer 3 = .ok (.aload_n 0, 1) := by decide +kernel
theorem dL_nearer_4 : decode cL_nearer 4 = .ok (.iload_n 1, 1) := by decide +kernel
theorem dL_nearer_5 : decode cL_nearer 5 = .ok (.iload_n 2, 1) := by decide +kernel
theorem dL_nearer_6 : decode cL_nearer 6 = .ok (.iload_n 3, 1) := by decide +kernel
theorem dL_nearer_7 : decode cL_nearer 7 = .ok (.invokevirtual 86, 3) := by decide +kernel
theorem dL_nearer_10 : decode cL_nearer 10 = .ok (.i2l, 1) := by decide +kernel
theorem dL_nearer_11 : decode cL_nearer 11 = .ok (.lastore, 1) := by decide +kernel
theorem dL_nearer_12 : decode cL_nearer 12 = .ok (.goto 11, 3) := by decide +kernel
theorem dL_nearer_15 : decode cL_nearer 15 = .ok (.astore 5, 2) := by decide +kernel
theorem dL_nearer_17 : decode cL_nearer 17 = .ok (.iconst 1, 1) := by decide +kernel
theorem dL_nearer_18 : decode cL_nearer 18 = .ok (.ireturn, 1) := by decide +kernel
theorem dL_nearer_19 : decode cL_nearer 19 = .ok (.astore 5, 2) := by decide +kernel
theorem dL_nearer_21 : decode cL_nearer 21 = .ok (.iconst 2, 1) := by decide +kernel
theorem dL_nearer_22 : decode cL_nearer 22 = .ok (.ireturn, 1) := by decide +kernel
theorem dL_nearer_23 : decode cL_nearer 23 = .ok (.iconst 0, 1) := by decide +kernel
theorem dL_nearer_24 : decode cL_nearer 24 = .ok (.ireturn, 1) := by decide +kernel
theorem dL_spread_0 : decode cL_spread 0 = .ok (.aload_n 3, 1) := by decide +kernel
theorem dL_spread_1 : decode cL_spread 1 = .ok (.iconst 0, 1) := by decide +kernel
theorem dL_spread_2 : decode cL_spread 2 = .ok (.aload_n 0, 1) := by decide +kernel
theorem dL_spread_3 : decode cL_spread 3 = .ok (.iload_n 1, 1) := by decide +kernel
theorem dL_spread_4 : decode cL_spread 4 = .ok (.iload_n 2, 1) := by decide +kernel
theorem dL_spread_5 : decode cL_spread 5 = .ok (.invokevirtual 89, 3) := by decide +kernel
theorem dL_spread_8 : decode cL_spread 8 = .ok (.i2l, 1) := by decide +kernel
theorem dL_spread_9 : decode cL_spread 9 = .ok (.lastore, 1) := by decide +kernel
theorem dL_spread_10 : decode cL_spread 10 = .ok (.goto 7, 3) := by decide +kernel
theorem dL_spread_13 : decode cL_spread 13 = .ok (.astore 4, 2) := by decide +kernel
theorem dL_spread_15 : decode cL_spread 15 = .ok (.iconst 1, 1) := by decide +kernel
theorem dL_spread_16 : decode cL_spread 16 = .ok (.ireturn, 1) := by decide +kernel
theorem dL_spread_17 : decode cL_spread 17 = .ok (.iconst 0, 1) := by decide +kernel
theorem dL_spread_18 : decode cL_spread 18 = .ok (.ireturn, 1) := by decide +kernel
theorem dL_steps_0 : decode cL_steps 0 = .ok (.aload 4, 2) := by decide +kernel
theorem dL_steps_2 : decode cL_steps 2 = .ok (.iconst 0, 1) := by decide +kernel
theorem dL_steps_3 : decode cL_steps 3 = .ok (.aload_n 0, 1) := by decide +kernel
theorem dL_steps_4 : decode cL_steps 4 = .ok (.iload_n 1, 1) := by decide +kernel
theorem dL_steps_5 : decode cL_steps 5 = .ok (.iload_n 2, 1) := by decide +kernel
theorem dL_steps_6 : decode cL_steps 6 = .ok (.iload_n 3, 1) := by decide +kernel
theorem dL_steps_7 : decode cL_steps 7 = .ok (.invokevirtual 92, 3) := by decide +kernel
theorem dL_steps_10 : decode cL_steps 10 = .ok (.i2l, 1) := by decide +kernel
theorem dL_steps_11 : decode cL_steps 11 = .ok (.lastore, 1) := by decide +kernel
theorem dL_steps_12 : decode cL_steps 12 = .ok (.goto 7, 3) := by decide +kernel
theorem dL_steps_15 : decode cL_steps 15 = .ok (.astore 5, 2) := by decide +kernel
theorem dL_steps_17 : decode cL_steps 17 = .ok (.iconst 1, 1) := by decide +kernel
theorem dL_steps_18 : decode cL_steps 18 = .ok (.ireturn, 1) := by decide +kernel
theorem dL_steps_19 : decode cL_steps 19 = .ok (.iconst 0, 1) := by decide +kernel
theorem dL_steps_20 : decode cL_steps 20 = .ok (.ireturn, 1) := by decide +kernel
theorem dL_total_0 : decode cL_total 0 = .ok (.aload_n 3, 1) := by decide +kernel
theorem dL_total_1 : decode cL_total 1 = .ok (.iconst 0, 1) := by decide +kernel
theorem dL_total_2 : decode cL_total 2 = .ok (.aload_n 0, 1) := by decide +kernel
theorem dL_total_3 : decode cL_total 3 = .ok (.iload_n 1, 1) := by decide +kernel
theorem dL_total_4 : decode cL_total 4 = .ok (.iload_n 2, 1) := by decide +kernel
theorem dL_total_5 : decode cL_total 5 = .ok (.invokevirtual 95, 3) := by decide +kernel
theorem dL_total_8 : decode cL_total 8 = .ok (.lastore, 1) := by decide +kernel
theorem dL_total_9 : decode cL_total 9 = .ok (.goto 7, 3) := by decide +kernel
theorem dL_total_12 : decode cL_total 12 = .ok (.astore 4, 2) := by decide +kernel
theorem dL_total_14 : decode cL_total 14 = .ok (.iconst 1, 1) := by decide +kernel
theorem dL_total_15 : decode cL_total 15 = .ok (.ireturn, 1) := by decide +kernel
theorem dL_total_16 : decode cL_total 16 = .ok (.iconst 0, 1) := by decide +kernel
theorem dL_total_17 : decode cL_total 17 = .ok (.ireturn, 1) := by decide +kernel
theorem dL_attacks_0 : decode cL_attacks 0 = .ok (.aload 5, 2) := by decide +kernel
theorem dL_attacks_2 : decode cL_attacks 2 = .ok (.iconst 0, 1) := by decide +kernel
theorem dL_attacks_3 : decode cL_attacks 3 = .ok (.aload_n 0, 1) := by decide +kernel
theorem dL_attacks_4 : decode cL_attacks 4 = .ok (.iload_n 1, 1) := by decide +kernel
theorem dL_attacks_5 : decode cL_attacks 5 = .ok (.iload_n 2, 1) := by decide +kernel
theorem dL_attacks_6 : decode cL_attacks 6 = .ok (.iload_n 3, 1) := by decide +kernel
theorem dL_attacks_7 : decode cL_attacks 7 = .ok (.iload 4, 2) := by decide +kernel
theorem dL_attacks_9 : decode cL_attacks 9 = .ok (.invokevirtual 99, 3) := by decide +kernel
theorem dL_attacks_12 : decode cL_attacks 12 = .ok (.i2l, 1) := by decide +kernel
theorem dL_attacks_13 : decode cL_attacks 13 = .ok (.lastore, 1) := by decide +kernel
theorem dL_attacks_14 : decode cL_attacks 14 = .ok (.goto 11, 3) := by decide +kernel
theorem dL_attacks_17 : decode cL_attacks 17 = .ok (.astore 6, 2) := by decide +kernel
theorem dL_attacks_19 : decode cL_attacks 19 = .ok (.iconst 1, 1) := by decide +kernel
theorem dL_attacks_20 : decode cL_attacks 20 = .ok (.ireturn, 1) := by decide +kernel
theorem dL_attacks_21 : decode cL_attacks 21 = .ok (.astore 6, 2) := by decide +kernel
theorem dL_attacks_23 : decode cL_attacks 23 = .ok (.iconst 2, 1) := by decide +kernel
theorem dL_attacks_24 : decode cL_attacks 24 = .ok (.ireturn, 1) := by decide +kernel
theorem dL_attacks_25 : decode cL_attacks 25 = .ok (.iconst 0, 1) := by decide +kernel
theorem dL_attacks_26 : decode cL_attacks 26 = .ok (.ireturn, 1) := by decide +kernel
theorem dL_breaks_0 : decode cL_breaks 0 = .ok (.aload 5, 2) := by decide +kernel
theorem dL_breaks_2 : decode cL_breaks 2 = .ok (.iconst 0, 1) := by decide +kernel
theorem dL_breaks_3 : decode cL_breaks 3 = .ok (.aload_n 0, 1) := by decide +kernel
theorem dL_breaks_4 : decode cL_breaks 4 = .ok (.iload_n 1, 1) := by decide +kernel
theorem dL_breaks_5 : decode cL_breaks 5 = .ok (.iload_n 2, 1) := by decide +kernel
theorem dL_breaks_6 : decode cL_breaks 6 = .ok (.iload_n 3, 1) := by decide +kernel
theorem dL_breaks_7 : decode cL_breaks 7 = .ok (.iload 4, 2) := by decide +kernel
theorem dL_breaks_9 : decode cL_breaks 9 = .ok (.invokevirtual 102, 3) := by decide +kernel
theorem dL_breaks_12 : decode cL_breaks 12 = .ok (.ifCond .eq 7, 3) := by decide +kernel
theorem dL_breaks_15 : decode cL_breaks 15 = .ok (.lconst 1, 1) := by decide +kernel
theorem dL_breaks_16 : decode cL_breaks 16 = .ok (.goto 4, 3) := by decide +kernel
theorem dL_breaks_19 : decode cL_breaks 19 = .ok (.lconst 0, 1) := by decide +kernel
theorem dL_breaks_20 : decode cL_breaks 20 = .ok (.lastore, 1) := by decide +kernel
theorem dL_breaks_21 : decode cL_breaks 21 = .ok (.goto 11, 3) := by decide +kernel
theorem dL_breaks_24 : decode cL_breaks 24 = .ok (.astore 6, 2) := by decide +kernel
theorem dL_breaks_26 : decode cL_breaks 26 = .ok (.iconst 1, 1) := by decide +kernel
theorem dL_breaks_27 : decode cL_breaks 27 = .ok (.ireturn, 1) := by decide +kernel
theorem dL_breaks_28 : decode cL_breaks 28 = .ok (.astore 6, 2) := by decide +kernel
theorem dL_breaks_30 : decode cL_breaks 30 = .ok (.iconst 2, 1) := by decide +kernel
theorem dL_breaks_31 : decode cL_breaks 31 = .ok (.ireturn, 1) := by decide +kernel
theorem dL_breaks_32 : decode cL_breaks 32 = .ok (.iconst 0, 1) := by decide +kernel
theorem dL_breaks_33 : decode cL_breaks 33 = .ok (.ireturn, 1) := by decide +kernel
theorem dL_fewest_0 : decode cL_fewest 0 = .ok (.aload_n 3, 1) := by decide +kernel
theorem dL_fewest_1 : decode cL_fewest 1 = .ok (.iconst 0, 1) := by decide +kernel
theorem dL_fewest_2 : decode cL_fewest 2 = .ok (.aload_n 0, 1) := by decide +kernel
theorem dL_fewest_3 : decode cL_fewest 3 = .ok (.iload_n 1, 1) := by decide +kernel
theorem dL_fewest_4 : decode cL_fewest 4 = .ok (.iload_n 2, 1) := by decide +kernel
theorem dL_fewest_5 : decode cL_fewest 5 = .ok (.invokevirtual 106, 3) := by decide +kernel
theorem dL_fewest_8 : decode cL_fewest 8 = .ok (.i2l, 1) := by decide +kernel
theorem dL_fewest_9 : decode cL_fewest 9 = .ok (.lastore, 1) := by decide +kernel
theorem dL_fewest_10 : decode cL_fewest 10 = .ok (.goto 7, 3) := by decide +kernel
theorem dL_fewest_13 : decode cL_fewest 13 = .ok (.astore 4, 2) := by decide +kernel
theorem dL_fewest_15 : decode cL_fewest 15 = .ok (.iconst 1, 1) := by decide +kernel
theorem dL_fewest_16 : decode cL_fewest 16 = .ok (.ireturn, 1) := by decide +kernel
theorem dL_fewest_17 : decode cL_fewest 17 = .ok (.iconst 0, 1) := by decide +kernel
theorem dL_fewest_18 : decode cL_fewest 18 = .ok (.ireturn, 1) := by decide +kernel
