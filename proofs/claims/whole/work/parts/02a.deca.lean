theorem dX0_init_0 : decode cX0_init 0 = .ok (.aload_n 0, 1) := by decide +kernel
theorem dX0_init_1 : decode cX0_init 1 = .ok (.invokespecial 3, 3) := by decide +kernel
theorem dX0_init_4 : decode cX0_init 4 = .ok (.aload_n 0, 1) := by decide +kernel
theorem dX0_init_5 : decode cX0_init 5 = .ok (.bipush 7, 2) := by decide +kernel
theorem dX0_init_7 : decode cX0_init 7 = .ok (.newarray .int, 2) := by decide +kernel
theorem dX0_init_9 : decode cX0_init 9 = .ok (.putfield 9, 3) := by decide +kernel
theorem dX0_init_12 : decode cX0_init 12 = .ok (.aload_n 0, 1) := by decide +kernel
theorem dX0_init_13 : decode cX0_init 13 = .ok (.bipush 7, 2) := by decide +kernel
theorem dX0_init_15 : decode cX0_init 15 = .ok (.newarray .int, 2) := by decide +kernel
theorem dX0_init_17 : decode cX0_init 17 = .ok (.putfield 15, 3) := by decide +kernel
theorem dX0_init_20 : decode cX0_init 20 = .ok (.aload_n 0, 1) := by decide +kernel
theorem dX0_init_21 : decode cX0_init 21 = .ok (.bipush 7, 2) := by decide +kernel
theorem dX0_init_23 : decode cX0_init 23 = .ok (.newarray .int, 2) := by decide +kernel
theorem dX0_init_25 : decode cX0_init 25 = .ok (.putfield 18, 3) := by decide +kernel
theorem dX0_init_28 : decode cX0_init 28 = .ok (.aload_n 0, 1) := by decide +kernel
theorem dX0_init_29 : decode cX0_init 29 = .ok (.bipush 7, 2) := by decide +kernel
theorem dX0_init_31 : decode cX0_init 31 = .ok (.newarray .int, 2) := by decide +kernel
theorem dX0_init_33 : decode cX0_init 33 = .ok (.putfield 21, 3) := by decide +kernel
theorem dX0_init_36 : decode cX0_init 36 = .ok (.aload_n 0, 1) := by decide +kernel
theorem dX0_init_37 : decode cX0_init 37 = .ok (.bipush 7, 2) := by decide +kernel
theorem dX0_init_39 : decode cX0_init 39 = .ok (.newarray .int, 2) := by decide +kernel
theorem dX0_init_41 : decode cX0_init 41 = .ok (.putfield 24, 3) := by decide +kernel
theorem dX0_init_44 : decode cX0_init 44 = .ok (.aload_n 0, 1) := by decide +kernel
theorem dX0_init_45 : decode cX0_init 45 = .ok (.bipush 7, 2) := by decide +kernel
theorem dX0_init_47 : decode cX0_init 47 = .ok (.newarray .int, 2) := by decide +kernel
theorem dX0_init_49 : decode cX0_init 49 = .ok (.putfield 27, 3) := by decide +kernel
theorem dX0_init_52 : decode cX0_init 52 = .ok (.aload_n 0, 1) := by decide +kernel
theorem dX0_init_53 : decode cX0_init 53 = .ok (.bipush 49, 2) := by decide +kernel
theorem dX0_init_55 : decode cX0_init 55 = .ok (.newarray .int, 2) := by decide +kernel
theorem dX0_init_57 : decode cX0_init 57 = .ok (.putfield 30, 3) := by decide +kernel
theorem dX0_init_60 : decode cX0_init 60 = .ok (.aload_n 0, 1) := by decide +kernel
theorem dX0_init_61 : decode cX0_init 61 = .ok (.bipush 49, 2) := by decide +kernel
theorem dX0_init_63 : decode cX0_init 63 = .ok (.newarray .int, 2) := by decide +kernel
theorem dX0_init_65 : decode cX0_init 65 = .ok (.putfield 33, 3) := by decide +kernel
theorem dX0_init_68 : decode cX0_init 68 = .ok (.aload_n 0, 1) := by decide +kernel
theorem dX0_init_69 : decode cX0_init 69 = .ok (.bipush 7, 2) := by decide +kernel
theorem dX0_init_71 : decode cX0_init 71 = .ok (.newarray .int, 2) := by decide +kernel
theorem dX0_init_73 : decode cX0_init 73 = .ok (.putfield 36, 3) := by decide +kernel
theorem dX0_init_76 : decode cX0_init 76 = .ok (.return_, 1) := by decide +kernel
theorem dX0_play_0 : decode cX0_play 0 = .ok (.aload_n 0, 1) := by decide +kernel
theorem dX0_play_1 : decode cX0_play 1 = .ok (.iload_n 2, 1) := by decide +kernel
theorem dX0_play_2 : decode cX0_play 2 = .ok (.invokevirtual 39, 3) := by decide +kernel
theorem dX0_play_5 : decode cX0_play 5 = .ok (.aload_n 0, 1) := by decide +kernel
theorem dX0_play_6 : decode cX0_play 6 = .ok (.aload_n 1, 1) := by decide +kernel
theorem dX0_play_7 : decode cX0_play 7 = .ok (.invokevirtual 43, 3) := by decide +kernel
theorem dX0_play_10 : decode cX0_play 10 = .ok (.iconst 0, 1) := by decide +kernel
theorem dX0_play_11 : decode cX0_play 11 = .ok (.istore_n 3, 1) := by decide +kernel
theorem dX0_play_12 : decode cX0_play 12 = .ok (.iload_n 3, 1) := by decide +kernel
theorem dX0_play_13 : decode cX0_play 13 = .ok (.aload_n 1, 1) := by decide +kernel
theorem dX0_play_14 : decode cX0_play 14 = .ok (.getfield 47, 3) := by decide +kernel
theorem dX0_play_17 : decode cX0_play 17 = .ok (.if_icmp .ge 41, 3) := by decide +kernel
theorem dX0_play_20 : decode cX0_play 20 = .ok (.aload_n 0, 1) := by decide +kernel
theorem dX0_play_21 : decode cX0_play 21 = .ok (.getfield 53, 3) := by decide +kernel
theorem dX0_play_24 : decode cX0_play 24 = .ok (.iload_n 3, 1) := by decide +kernel
theorem dX0_play_25 : decode cX0_play 25 = .ok (.invokestatic 56, 3) := by decide +kernel
theorem dX0_play_28 : decode cX0_play 28 = .ok (.ifCond .eq 24, 3) := by decide +kernel
theorem dX0_play_31 : decode cX0_play 31 = .ok (.aload_n 0, 1) := by decide +kernel
theorem dX0_play_32 : decode cX0_play 32 = .ok (.aload_n 1, 1) := by decide +kernel
theorem dX0_play_33 : decode cX0_play 33 = .ok (.iconst 2, 1) := by decide +kernel
theorem dX0_play_34 : decode cX0_play 34 = .ok (.iload_n 3, 1) := by decide +kernel
theorem dX0_play_35 : decode cX0_play 35 = .ok (.aload_n 0, 1) := by decide +kernel
theorem dX0_play_36 : decode cX0_play 36 = .ok (.getfield 27, 3) := by decide +kernel
theorem dX0_play_39 : decode cX0_play 39 = .ok (.iload_n 3, 1) := by decide +kernel
theorem dX0_play_40 : decode cX0_play 40 = .ok (.iaload, 1) := by decide +kernel
theorem dX0_play_41 : decode cX0_play 41 = .ok (.aload_n 0, 1) := by decide +kernel
theorem dX0_play_42 : decode cX0_play 42 = .ok (.getfield 30, 3) := by decide +kernel
theorem dX0_play_45 : decode cX0_play 45 = .ok (.aload_n 0, 1) := by decide +kernel
theorem dX0_play_46 : decode cX0_play 46 = .ok (.getfield 21, 3) := by decide +kernel
theorem dX0_play_49 : decode cX0_play 49 = .ok (.invokevirtual 62, 3) := by decide +kernel
theorem dX0_play_52 : decode cX0_play 52 = .ok (.iinc 3 1, 3) := by decide +kernel
theorem dX0_play_55 : decode cX0_play 55 = .ok (.goto (-43), 3) := by decide +kernel
theorem dX0_play_58 : decode cX0_play 58 = .ok (.iconst 3, 1) := by decide +kernel
theorem dX0_play_59 : decode cX0_play 59 = .ok (.istore_n 3, 1) := by decide +kernel
theorem dX0_play_60 : decode cX0_play 60 = .ok (.iload_n 3, 1) := by decide +kernel
theorem dX0_play_61 : decode cX0_play 61 = .ok (.bipush 6, 2) := by decide +kernel
theorem dX0_play_63 : decode cX0_play 63 = .ok (.if_icmp .gt 21, 3) := by decide +kernel
theorem dX0_play_66 : decode cX0_play 66 = .ok (.aload_n 0, 1) := by decide +kernel
theorem dX0_play_67 : decode cX0_play 67 = .ok (.aload_n 1, 1) := by decide +kernel
theorem dX0_play_68 : decode cX0_play 68 = .ok (.iload_n 3, 1) := by decide +kernel
theorem dX0_play_69 : decode cX0_play 69 = .ok (.invokevirtual 66, 3) := by decide +kernel
theorem dX0_play_72 : decode cX0_play 72 = .ok (.aload_n 0, 1) := by decide +kernel
theorem dX0_play_73 : decode cX0_play 73 = .ok (.aload_n 1, 1) := by decide +kernel
theorem dX0_play_74 : decode cX0_play 74 = .ok (.iload_n 3, 1) := by decide +kernel
theorem dX0_play_75 : decode cX0_play 75 = .ok (.invokevirtual 70, 3) := by decide +kernel
theorem dX0_play_78 : decode cX0_play 78 = .ok (.iinc 3 1, 3) := by decide +kernel
theorem dX0_play_81 : decode cX0_play 81 = .ok (.goto (-21), 3) := by decide +kernel
theorem dX0_play_84 : decode cX0_play 84 = .ok (.return_, 1) := by decide +kernel
theorem dX0_unlike_0 : decode cX0_unlike 0 = .ok (.aload_n 0, 1) := by decide +kernel
theorem dX0_unlike_1 : decode cX0_unlike 1 = .ok (.getfield 9, 3) := by decide +kernel
theorem dX0_unlike_4 : decode cX0_unlike 4 = .ok (.aload_n 1, 1) := by decide +kernel
theorem dX0_unlike_5 : decode cX0_unlike 5 = .ok (.getfield 47, 3) := by decide +kernel
theorem dX0_unlike_8 : decode cX0_unlike 8 = .ok (.aload_n 1, 1) := by decide +kernel
theorem dX0_unlike_9 : decode cX0_unlike 9 = .ok (.getfield 73, 3) := by decide +kernel
theorem dX0_unlike_12 : decode cX0_unlike 12 = .ok (.getfield 77, 3) := by decide +kernel
theorem dX0_unlike_15 : decode cX0_unlike 15 = .ok (.aload_n 0, 1) := by decide +kernel
theorem dX0_unlike_16 : decode cX0_unlike 16 = .ok (.invokevirtual 82, 3) := by decide +kernel
theorem dX0_unlike_19 : decode cX0_unlike 19 = .ok (.ior, 1) := by decide +kernel
theorem dX0_unlike_20 : decode cX0_unlike 20 = .ok (.invokestatic 86, 3) := by decide +kernel
theorem dX0_unlike_23 : decode cX0_unlike 23 = .ok (.ireturn, 1) := by decide +kernel
theorem dX0_trueOnes_0 : decode cX0_trueOnes 0 = .ok (.iconst 0, 1) := by decide +kernel
theorem dX0_trueOnes_1 : decode cX0_trueOnes 1 = .ok (.istore_n 2, 1) := by decide +kernel
theorem dX0_trueOnes_2 : decode cX0_trueOnes 2 = .ok (.iconst 0, 1) := by decide +kernel
theorem dX0_trueOnes_3 : decode cX0_trueOnes 3 = .ok (.istore_n 3, 1) := by decide +kernel
theorem dX0_trueOnes_4 : decode cX0_trueOnes 4 = .ok (.iload_n 3, 1) := by decide +kernel
theorem dX0_trueOnes_5 : decode cX0_trueOnes 5 = .ok (.aload_n 1, 1) := by decide +kernel
theorem dX0_trueOnes_6 : decode cX0_trueOnes 6 = .ok (.getfield 47, 3) := by decide +kernel
theorem dX0_trueOnes_9 : decode cX0_trueOnes 9 = .ok (.if_icmp .ge 37, 3) := by decide +kernel
theorem dX0_trueOnes_12 : decode cX0_trueOnes 12 = .ok (.iload_n 2, 1) := by decide +kernel
theorem dX0_trueOnes_13 : decode cX0_trueOnes 13 = .ok (.aload_n 0, 1) := by decide +kernel
theorem dX0_trueOnes_14 : decode cX0_trueOnes 14 = .ok (.getfield 15, 3) := by decide +kernel
theorem dX0_trueOnes_17 : decode cX0_trueOnes 17 = .ok (.iload_n 3, 1) := by decide +kernel
theorem dX0_trueOnes_18 : decode cX0_trueOnes 18 = .ok (.iaload, 1) := by decide +kernel
theorem dX0_trueOnes_19 : decode cX0_trueOnes 19 = .ok (.ifCond .le 18, 3) := by decide +kernel
theorem dX0_trueOnes_22 : decode cX0_trueOnes 22 = .ok (.aload_n 1, 1) := by decide +kernel
theorem dX0_trueOnes_23 : decode cX0_trueOnes 23 = .ok (.getfield 73, 3) := by decide +kernel
theorem dX0_trueOnes_26 : decode cX0_trueOnes 26 = .ok (.iload_n 3, 1) := by decide +kernel
theorem dX0_trueOnes_27 : decode cX0_trueOnes 27 = .ok (.invokevirtual 90, 3) := by decide +kernel
theorem dX0_trueOnes_30 : decode cX0_trueOnes 30 = .ok (.ifCond .ne 7, 3) := by decide +kernel
theorem dX0_trueOnes_33 : decode cX0_trueOnes 33 = .ok (.iconst 1, 1) := by decide +kernel
theorem dX0_trueOnes_34 : decode cX0_trueOnes 34 = .ok (.goto 4, 3) := by decide +kernel
theorem dX0_trueOnes_37 : decode cX0_trueOnes 37 = .ok (.iconst 0, 1) := by decide +kernel
theorem dX0_trueOnes_38 : decode cX0_trueOnes 38 = .ok (.iadd, 1) := by decide +kernel
theorem dX0_trueOnes_39 : decode cX0_trueOnes 39 = .ok (.istore_n 2, 1) := by decide +kernel
theorem dX0_trueOnes_40 : decode cX0_trueOnes 40 = .ok (.iinc 3 1, 3) := by decide +kernel
theorem dX0_trueOnes_43 : decode cX0_trueOnes 43 = .ok (.goto (-39), 3) := by decide +kernel
theorem dX0_trueOnes_46 : decode cX0_trueOnes 46 = .ok (.iload_n 2, 1) := by decide +kernel
theorem dX0_trueOnes_47 : decode cX0_trueOnes 47 = .ok (.ireturn, 1) := by decide +kernel
theorem dX0_lastRound_0 : decode cX0_lastRound 0 = .ok (.iconst 0, 1) := by decide +kernel
theorem dX0_lastRound_1 : decode cX0_lastRound 1 = .ok (.istore_n 2, 1) := by decide +kernel
theorem dX0_lastRound_2 : decode cX0_lastRound 2 = .ok (.iconst 0, 1) := by decide +kernel
theorem dX0_lastRound_3 : decode cX0_lastRound 3 = .ok (.istore_n 3, 1) := by decide +kernel
theorem dX0_lastRound_4 : decode cX0_lastRound 4 = .ok (.iload_n 3, 1) := by decide +kernel
theorem dX0_lastRound_5 : decode cX0_lastRound 5 = .ok (.aload_n 1, 1) := by decide +kernel
theorem dX0_lastRound_6 : decode cX0_lastRound 6 = .ok (.getfield 47, 3) := by decide +kernel
theorem dX0_lastRound_9 : decode cX0_lastRound 9 = .ok (.if_icmp .ge 35, 3) := by decide +kernel
theorem dX0_lastRound_12 : decode cX0_lastRound 12 = .ok (.aload_n 1, 1) := by decide +kernel
theorem dX0_lastRound_13 : decode cX0_lastRound 13 = .ok (.getfield 73, 3) := by decide +kernel
theorem dX0_lastRound_16 : decode cX0_lastRound 16 = .ok (.iload_n 3, 1) := by decide +kernel
theorem dX0_lastRound_17 : decode cX0_lastRound 17 = .ok (.invokevirtual 90, 3) := by decide +kernel
theorem dX0_lastRound_20 : decode cX0_lastRound 20 = .ok (.ifCond .eq 7, 3) := by decide +kernel
theorem dX0_lastRound_23 : decode cX0_lastRound 23 = .ok (.iload_n 2, 1) := by decide +kernel
theorem dX0_lastRound_24 : decode cX0_lastRound 24 = .ok (.goto 13, 3) := by decide +kernel
theorem dX0_lastRound_27 : decode cX0_lastRound 27 = .ok (.iload_n 2, 1) := by decide +kernel
theorem dX0_lastRound_28 : decode cX0_lastRound 28 = .ok (.aload_n 0, 1) := by decide +kernel
theorem dX0_lastRound_29 : decode cX0_lastRound 29 = .ok (.getfield 15, 3) := by decide +kernel
theorem dX0_lastRound_32 : decode cX0_lastRound 32 = .ok (.iload_n 3, 1) := by decide +kernel
theorem dX0_lastRound_33 : decode cX0_lastRound 33 = .ok (.iaload, 1) := by decide +kernel
theorem dX0_lastRound_34 : decode cX0_lastRound 34 = .ok (.invokestatic 94, 3) := by decide +kernel
theorem dX0_lastRound_37 : decode cX0_lastRound 37 = .ok (.istore_n 2, 1) := by decide +kernel
theorem dX0_lastRound_38 : decode cX0_lastRound 38 = .ok (.iinc 3 1, 3) := by decide +kernel
theorem dX0_lastRound_41 : decode cX0_lastRound 41 = .ok (.goto (-37), 3) := by decide +kernel
theorem dX0_lastRound_44 : decode cX0_lastRound 44 = .ok (.iload_n 2, 1) := by decide +kernel
theorem dX0_lastRound_45 : decode cX0_lastRound 45 = .ok (.ireturn, 1) := by decide +kernel
theorem dX0_notAccepted_0 : decode cX0_notAccepted 0 = .ok (.iconst 0, 1) := by decide +kernel
theorem dX0_notAccepted_1 : decode cX0_notAccepted 1 = .ok (.istore_n 1, 1) := by decide +kernel
theorem dX0_notAccepted_2 : decode cX0_notAccepted 2 = .ok (.iconst 0, 1) := by decide +kernel
theorem dX0_notAccepted_3 : decode cX0_notAccepted 3 = .ok (.istore_n 2, 1) := by decide +kernel
theorem dX0_notAccepted_4 : decode cX0_notAccepted 4 = .ok (.iload_n 2, 1) := by decide +kernel
theorem dX0_notAccepted_5 : decode cX0_notAccepted 5 = .ok (.bipush 7, 2) := by decide +kernel
theorem dX0_notAccepted_7 : decode cX0_notAccepted 7 = .ok (.if_icmp .ge 28, 3) := by decide +kernel
theorem dX0_notAccepted_10 : decode cX0_notAccepted 10 = .ok (.iload_n 1, 1) := by decide +kernel
theorem dX0_notAccepted_11 : decode cX0_notAccepted 11 = .ok (.aload_n 0, 1) := by decide +kernel
theorem dX0_notAccepted_12 : decode cX0_notAccepted 12 = .ok (.getfield 15, 3) := by decide +kernel
theorem dX0_notAccepted_15 : decode cX0_notAccepted 15 = .ok (.iload_n 2, 1) := by decide +kernel
theorem dX0_notAccepted_16 : decode cX0_notAccepted 16 = .ok (.iaload, 1) := by decide +kernel
theorem dX0_notAccepted_17 : decode cX0_notAccepted 17 = .ok (.ifCond .ne 9, 3) := by decide +kernel
theorem dX0_notAccepted_20 : decode cX0_notAccepted 20 = .ok (.iconst 1, 1) := by decide +kernel
theorem dX0_notAccepted_21 : decode cX0_notAccepted 21 = .ok (.iload_n 2, 1) := by decide +kernel
theorem dX0_notAccepted_22 : decode cX0_notAccepted 22 = .ok (.ishl, 1) := by decide +kernel
theorem dX0_notAccepted_23 : decode cX0_notAccepted 23 = .ok (.goto 4, 3) := by decide +kernel
theorem dX0_notAccepted_26 : decode cX0_notAccepted 26 = .ok (.iconst 0, 1) := by decide +kernel
theorem dX0_notAccepted_27 : decode cX0_notAccepted 27 = .ok (.ior, 1) := by decide +kernel
theorem dX0_notAccepted_28 : decode cX0_notAccepted 28 = .ok (.istore_n 1, 1) := by decide +kernel
theorem dX0_notAccepted_29 : decode cX0_notAccepted 29 = .ok (.iinc 2 1, 3) := by decide +kernel
theorem dX0_notAccepted_32 : decode cX0_notAccepted 32 = .ok (.goto (-28), 3) := by decide +kernel
theorem dX0_notAccepted_35 : decode cX0_notAccepted 35 = .ok (.iload_n 1, 1) := by decide +kernel
theorem dX0_notAccepted_36 : decode cX0_notAccepted 36 = .ok (.ireturn, 1) := by decide +kernel
theorem dX0_begin_0 : decode cX0_begin 0 = .ok (.aload_n 0, 1) := by decide +kernel
theorem dX0_begin_1 : decode cX0_begin 1 = .ok (.iload_n 1, 1) := by decide +kernel
theorem dX0_begin_2 : decode cX0_begin 2 = .ok (.putfield 100, 3) := by decide +kernel
theorem dX0_begin_5 : decode cX0_begin 5 = .ok (.aload_n 0, 1) := by decide +kernel
theorem dX0_begin_6 : decode cX0_begin 6 = .ok (.iconst 0, 1) := by decide +kernel
theorem dX0_begin_7 : decode cX0_begin 7 = .ok (.putfield 53, 3) := by decide +kernel
theorem dX0_begin_10 : decode cX0_begin 10 = .ok (.aload_n 0, 1) := by decide +kernel
theorem dX0_begin_11 : decode cX0_begin 11 = .ok (.iconst 0, 1) := by decide +kernel
theorem dX0_begin_12 : decode cX0_begin 12 = .ok (.putfield 103, 3) := by decide +kernel
theorem dX0_begin_15 : decode cX0_begin 15 = .ok (.aload_n 0, 1) := by decide +kernel
theorem dX0_begin_16 : decode cX0_begin 16 = .ok (.iconst 0, 1) := by decide +kernel
theorem dX0_begin_17 : decode cX0_begin 17 = .ok (.putfield 106, 3) := by decide +kernel
theorem dX0_begin_20 : decode cX0_begin 20 = .ok (.iconst 0, 1) := by decide +kernel
theorem dX0_begin_21 : decode cX0_begin 21 = .ok (.istore_n 2, 1) := by decide +kernel
theorem dX0_begin_22 : decode cX0_begin 22 = .ok (.iload_n 2, 1) := by decide +kernel
theorem dX0_begin_23 : decode cX0_begin 23 = .ok (.bipush 7, 2) := by decide +kernel
theorem dX0_begin_25 : decode cX0_begin 25 = .ok (.if_icmp .ge 44, 3) := by decide +kernel
theorem dX0_begin_28 : decode cX0_begin 28 = .ok (.aload_n 0, 1) := by decide +kernel
theorem dX0_begin_29 : decode cX0_begin 29 = .ok (.getfield 9, 3) := by decide +kernel
theorem dX0_begin_32 : decode cX0_begin 32 = .ok (.iload_n 2, 1) := by decide +kernel
theorem dX0_begin_33 : decode cX0_begin 33 = .ok (.iconst 0, 1) := by decide +kernel
theorem dX0_begin_34 : decode cX0_begin 34 = .ok (.iastore, 1) := by decide +kernel
theorem dX0_begin_35 : decode cX0_begin 35 = .ok (.aload_n 0, 1) := by decide +kernel
theorem dX0_begin_36 : decode cX0_begin 36 = .ok (.getfield 15, 3) := by decide +kernel
theorem dX0_begin_39 : decode cX0_begin 39 = .ok (.iload_n 2, 1) := by decide +kernel
theorem dX0_begin_40 : decode cX0_begin 40 = .ok (.iconst 0, 1) := by decide +kernel
theorem dX0_begin_41 : decode cX0_begin 41 = .ok (.iastore, 1) := by decide +kernel
theorem dX0_begin_42 : decode cX0_begin 42 = .ok (.aload_n 0, 1) := by decide +kernel
theorem dX0_begin_43 : decode cX0_begin 43 = .ok (.getfield 18, 3) := by decide +kernel
theorem dX0_begin_46 : decode cX0_begin 46 = .ok (.iload_n 2, 1) := by decide +kernel
theorem dX0_begin_47 : decode cX0_begin 47 = .ok (.iconst 0, 1) := by decide +kernel
theorem dX0_begin_48 : decode cX0_begin 48 = .ok (.iastore, 1) := by decide +kernel
theorem dX0_begin_49 : decode cX0_begin 49 = .ok (.aload_n 0, 1) := by decide +kernel
theorem dX0_begin_50 : decode cX0_begin 50 = .ok (.getfield 21, 3) := by decide +kernel
theorem dX0_begin_53 : decode cX0_begin 53 = .ok (.iload_n 2, 1) := by decide +kernel
theorem dX0_begin_54 : decode cX0_begin 54 = .ok (.iconst 0, 1) := by decide +kernel
theorem dX0_begin_55 : decode cX0_begin 55 = .ok (.iastore, 1) := by decide +kernel
theorem dX0_begin_56 : decode cX0_begin 56 = .ok (.aload_n 0, 1) := by decide +kernel
theorem dX0_begin_57 : decode cX0_begin 57 = .ok (.getfield 24, 3) := by decide +kernel
theorem dX0_begin_60 : decode cX0_begin 60 = .ok (.iload_n 2, 1) := by decide +kernel
theorem dX0_begin_61 : decode cX0_begin 61 = .ok (.iconst 0, 1) := by decide +kernel
theorem dX0_begin_62 : decode cX0_begin 62 = .ok (.iastore, 1) := by decide +kernel
theorem dX0_begin_63 : decode cX0_begin 63 = .ok (.iinc 2 1, 3) := by decide +kernel
theorem dX0_begin_66 : decode cX0_begin 66 = .ok (.goto (-44), 3) := by decide +kernel
theorem dX0_begin_69 : decode cX0_begin 69 = .ok (.return_, 1) := by decide +kernel
theorem dX0_spoken_0 : decode cX0_spoken 0 = .ok (.aload_n 1, 1) := by decide +kernel
theorem dX0_spoken_1 : decode cX0_spoken 1 = .ok (.getfield 73, 3) := by decide +kernel
theorem dX0_spoken_4 : decode cX0_spoken 4 = .ok (.iload_n 3, 1) := by decide +kernel
theorem dX0_spoken_5 : decode cX0_spoken 5 = .ok (.iload_n 2, 1) := by decide +kernel
theorem dX0_spoken_6 : decode cX0_spoken 6 = .ok (.iload 4, 2) := by decide +kernel
theorem dX0_spoken_8 : decode cX0_spoken 8 = .ok (.aload_n 0, 1) := by decide +kernel
theorem dX0_spoken_9 : decode cX0_spoken 9 = .ok (.getfield 100, 3) := by decide +kernel
theorem dX0_spoken_12 : decode cX0_spoken 12 = .ok (.iload 5, 2) := by decide +kernel
theorem dX0_spoken_14 : decode cX0_spoken 14 = .ok (.invokevirtual 109, 3) := by decide +kernel
theorem dX0_spoken_17 : decode cX0_spoken 17 = .ok (.lstore 6, 2) := by decide +kernel
theorem dX0_spoken_19 : decode cX0_spoken 19 = .ok (.aload_n 0, 1) := by decide +kernel
theorem dX0_spoken_20 : decode cX0_spoken 20 = .ok (.dup, 1) := by decide +kernel
theorem dX0_spoken_21 : decode cX0_spoken 21 = .ok (.getfield 103, 3) := by decide +kernel
theorem dX0_spoken_24 : decode cX0_spoken 24 = .ok (.lload 6, 2) := by decide +kernel
theorem dX0_spoken_26 : decode cX0_spoken 26 = .ok (.ldc2_w 113, 3) := by decide +kernel
theorem dX0_spoken_29 : decode cX0_spoken 29 = .ok (.lcmp, 1) := by decide +kernel
theorem dX0_spoken_30 : decode cX0_spoken 30 = .ok (.ifCond .ne 7, 3) := by decide +kernel
theorem dX0_spoken_33 : decode cX0_spoken 33 = .ok (.iconst 0, 1) := by decide +kernel
theorem dX0_spoken_34 : decode cX0_spoken 34 = .ok (.goto 4, 3) := by decide +kernel
theorem dX0_spoken_37 : decode cX0_spoken 37 = .ok (.iconst 1, 1) := by decide +kernel
theorem dX0_spoken_38 : decode cX0_spoken 38 = .ok (.iadd, 1) := by decide +kernel
theorem dX0_spoken_39 : decode cX0_spoken 39 = .ok (.putfield 103, 3) := by decide +kernel
theorem dX0_spoken_42 : decode cX0_spoken 42 = .ok (.aload_n 0, 1) := by decide +kernel
theorem dX0_spoken_43 : decode cX0_spoken 43 = .ok (.dup, 1) := by decide +kernel
theorem dX0_spoken_44 : decode cX0_spoken 44 = .ok (.getfield 106, 3) := by decide +kernel
theorem dX0_spoken_47 : decode cX0_spoken 47 = .ok (.lload 6, 2) := by decide +kernel
theorem dX0_spoken_49 : decode cX0_spoken 49 = .ok (.ldc2_w 115, 3) := by decide +kernel
theorem dX0_spoken_52 : decode cX0_spoken 52 = .ok (.lcmp, 1) := by decide +kernel
theorem dX0_spoken_53 : decode cX0_spoken 53 = .ok (.ifCond .ne 7, 3) := by decide +kernel
theorem dX0_spoken_56 : decode cX0_spoken 56 = .ok (.iconst 1, 1) := by decide +kernel
theorem dX0_spoken_57 : decode cX0_spoken 57 = .ok (.goto 4, 3) := by decide +kernel
theorem dX0_spoken_60 : decode cX0_spoken 60 = .ok (.iconst 0, 1) := by decide +kernel
theorem dX0_spoken_61 : decode cX0_spoken 61 = .ok (.iadd, 1) := by decide +kernel
theorem dX0_spoken_62 : decode cX0_spoken 62 = .ok (.putfield 106, 3) := by decide +kernel
theorem dX0_spoken_65 : decode cX0_spoken 65 = .ok (.lload 6, 2) := by decide +kernel
theorem dX0_spoken_67 : decode cX0_spoken 67 = .ok (.lreturn, 1) := by decide +kernel
theorem dX0_sayOrder_0 : decode cX0_sayOrder 0 = .ok (.aload_n 1, 1) := by decide +kernel
theorem dX0_sayOrder_1 : decode cX0_sayOrder 1 = .ok (.getfield 117, 3) := by decide +kernel
theorem dX0_sayOrder_4 : decode cX0_sayOrder 4 = .ok (.aload_n 0, 1) := by decide +kernel
theorem dX0_sayOrder_5 : decode cX0_sayOrder 5 = .ok (.getfield 100, 3) := by decide +kernel
theorem dX0_sayOrder_8 : decode cX0_sayOrder 8 = .ok (.iaload, 1) := by decide +kernel
theorem dX0_sayOrder_9 : decode cX0_sayOrder 9 = .ok (.istore_n 2, 1) := by decide +kernel
theorem dX0_sayOrder_10 : decode cX0_sayOrder 10 = .ok (.iconst 0, 1) := by decide +kernel
theorem dX0_sayOrder_11 : decode cX0_sayOrder 11 = .ok (.istore_n 3, 1) := by decide +kernel
theorem dX0_sayOrder_12 : decode cX0_sayOrder 12 = .ok (.iload_n 3, 1) := by decide +kernel
theorem dX0_sayOrder_13 : decode cX0_sayOrder 13 = .ok (.aload_n 1, 1) := by decide +kernel
theorem dX0_sayOrder_14 : decode cX0_sayOrder 14 = .ok (.getfield 47, 3) := by decide +kernel
theorem dX0_sayOrder_17 : decode cX0_sayOrder 17 = .ok (.if_icmp .ge 68, 3) := by decide +kernel
theorem dX0_sayOrder_20 : decode cX0_sayOrder 20 = .ok (.iload_n 3, 1) := by decide +kernel
theorem dX0_sayOrder_21 : decode cX0_sayOrder 21 = .ok (.aload_n 0, 1) := by decide +kernel
theorem dX0_sayOrder_22 : decode cX0_sayOrder 22 = .ok (.getfield 100, 3) := by decide +kernel
theorem dX0_sayOrder_25 : decode cX0_sayOrder 25 = .ok (.if_icmp .ne 12, 3) := by decide +kernel
theorem dX0_sayOrder_28 : decode cX0_sayOrder 28 = .ok (.iload_n 2, 1) := by decide +kernel
theorem dX0_sayOrder_29 : decode cX0_sayOrder 29 = .ok (.i2l, 1) := by decide +kernel
theorem dX0_sayOrder_30 : decode cX0_sayOrder 30 = .ok (.ldc2_w 120, 3) := by decide +kernel
theorem dX0_sayOrder_33 : decode cX0_sayOrder 33 = .ok (.land, 1) := by decide +kernel
theorem dX0_sayOrder_34 : decode cX0_sayOrder 34 = .ok (.goto 15, 3) := by decide +kernel
theorem dX0_sayOrder_37 : decode cX0_sayOrder 37 = .ok (.aload_n 0, 1) := by decide +kernel
theorem dX0_sayOrder_38 : decode cX0_sayOrder 38 = .ok (.aload_n 1, 1) := by decide +kernel
theorem dX0_sayOrder_39 : decode cX0_sayOrder 39 = .ok (.iconst 1, 1) := by decide +kernel
theorem dX0_sayOrder_40 : decode cX0_sayOrder 40 = .ok (.aload_n 0, 1) := by decide +kernel
theorem dX0_sayOrder_41 : decode cX0_sayOrder 41 = .ok (.getfield 100, 3) := by decide +kernel
theorem dX0_sayOrder_44 : decode cX0_sayOrder 44 = .ok (.iload_n 3, 1) := by decide +kernel
theorem dX0_sayOrder_45 : decode cX0_sayOrder 45 = .ok (.iload_n 2, 1) := by decide +kernel
theorem dX0_sayOrder_46 : decode cX0_sayOrder 46 = .ok (.invokevirtual 122, 3) := by decide +kernel
theorem dX0_sayOrder_49 : decode cX0_sayOrder 49 = .ok (.lstore 4, 2) := by decide +kernel
theorem dX0_sayOrder_51 : decode cX0_sayOrder 51 = .ok (.lload 4, 2) := by decide +kernel
theorem dX0_sayOrder_53 : decode cX0_sayOrder 53 = .ok (.lconst 0, 1) := by decide +kernel
theorem dX0_sayOrder_54 : decode cX0_sayOrder 54 = .ok (.lcmp, 1) := by decide +kernel
theorem dX0_sayOrder_55 : decode cX0_sayOrder 55 = .ok (.ifCond .lt 24, 3) := by decide +kernel
theorem dX0_sayOrder_58 : decode cX0_sayOrder 58 = .ok (.aload_n 0, 1) := by decide +kernel
theorem dX0_sayOrder_59 : decode cX0_sayOrder 59 = .ok (.dup, 1) := by decide +kernel
theorem dX0_sayOrder_60 : decode cX0_sayOrder 60 = .ok (.getfield 53, 3) := by decide +kernel
theorem dX0_sayOrder_63 : decode cX0_sayOrder 63 = .ok (.iconst 1, 1) := by decide +kernel
theorem dX0_sayOrder_64 : decode cX0_sayOrder 64 = .ok (.iload_n 3, 1) := by decide +kernel
theorem dX0_sayOrder_65 : decode cX0_sayOrder 65 = .ok (.ishl, 1) := by decide +kernel
theorem dX0_sayOrder_66 : decode cX0_sayOrder 66 = .ok (.ior, 1) := by decide +kernel
theorem dX0_sayOrder_67 : decode cX0_sayOrder 67 = .ok (.putfield 53, 3) := by decide +kernel
theorem dX0_sayOrder_70 : decode cX0_sayOrder 70 = .ok (.aload_n 0, 1) := by decide +kernel
theorem dX0_sayOrder_71 : decode cX0_sayOrder 71 = .ok (.getfield 27, 3) := by decide +kernel
theorem dX0_sayOrder_74 : decode cX0_sayOrder 74 = .ok (.iload_n 3, 1) := by decide +kernel
theorem dX0_sayOrder_75 : decode cX0_sayOrder 75 = .ok (.lload 4, 2) := by decide +kernel
theorem dX0_sayOrder_77 : decode cX0_sayOrder 77 = .ok (.l2i, 1) := by decide +kernel
theorem dX0_sayOrder_78 : decode cX0_sayOrder 78 = .ok (.iastore, 1) := by decide +kernel
theorem dX0_sayOrder_79 : decode cX0_sayOrder 79 = .ok (.iinc 3 1, 3) := by decide +kernel
theorem dX0_sayOrder_82 : decode cX0_sayOrder 82 = .ok (.goto (-70), 3) := by decide +kernel
theorem dX0_sayOrder_85 : decode cX0_sayOrder 85 = .ok (.return_, 1) := by decide +kernel
theorem dX0_sayToAll_0 : decode cX0_sayToAll 0 = .ok (.iconst 0, 1) := by decide +kernel
theorem dX0_sayToAll_1 : decode cX0_sayToAll 1 = .ok (.istore 7, 2) := by decide +kernel
theorem dX0_sayToAll_3 : decode cX0_sayToAll 3 = .ok (.iload 7, 2) := by decide +kernel
theorem dX0_sayToAll_5 : decode cX0_sayToAll 5 = .ok (.aload_n 1, 1) := by decide +kernel
theorem dX0_sayToAll_6 : decode cX0_sayToAll 6 = .ok (.getfield 47, 3) := by decide +kernel
theorem dX0_sayToAll_9 : decode cX0_sayToAll 9 = .ok (.if_icmp .ge 69, 3) := by decide +kernel
theorem dX0_sayToAll_12 : decode cX0_sayToAll 12 = .ok (.iload 7, 2) := by decide +kernel
theorem dX0_sayToAll_14 : decode cX0_sayToAll 14 = .ok (.iload_n 3, 1) := by decide +kernel
theorem dX0_sayToAll_15 : decode cX0_sayToAll 15 = .ok (.if_icmp .ne 13, 3) := by decide +kernel
theorem dX0_sayToAll_18 : decode cX0_sayToAll 18 = .ok (.iload 4, 2) := by decide +kernel
theorem dX0_sayToAll_20 : decode cX0_sayToAll 20 = .ok (.i2l, 1) := by decide +kernel
theorem dX0_sayToAll_21 : decode cX0_sayToAll 21 = .ok (.ldc2_w 120, 3) := by decide +kernel
theorem dX0_sayToAll_24 : decode cX0_sayToAll 24 = .ok (.land, 1) := by decide +kernel
theorem dX0_sayToAll_25 : decode cX0_sayToAll 25 = .ok (.goto 14, 3) := by decide +kernel
theorem dX0_sayToAll_28 : decode cX0_sayToAll 28 = .ok (.aload_n 0, 1) := by decide +kernel
theorem dX0_sayToAll_29 : decode cX0_sayToAll 29 = .ok (.aload_n 1, 1) := by decide +kernel
theorem dX0_sayToAll_30 : decode cX0_sayToAll 30 = .ok (.iload_n 2, 1) := by decide +kernel
theorem dX0_sayToAll_31 : decode cX0_sayToAll 31 = .ok (.iload_n 3, 1) := by decide +kernel
theorem dX0_sayToAll_32 : decode cX0_sayToAll 32 = .ok (.iload 7, 2) := by decide +kernel
theorem dX0_sayToAll_34 : decode cX0_sayToAll 34 = .ok (.iload 4, 2) := by decide +kernel
theorem dX0_sayToAll_36 : decode cX0_sayToAll 36 = .ok (.invokevirtual 122, 3) := by decide +kernel
theorem dX0_sayToAll_39 : decode cX0_sayToAll 39 = .ok (.lstore 8, 2) := by decide +kernel
theorem dX0_sayToAll_41 : decode cX0_sayToAll 41 = .ok (.lload 8, 2) := by decide +kernel
theorem dX0_sayToAll_43 : decode cX0_sayToAll 43 = .ok (.lconst 0, 1) := by decide +kernel
theorem dX0_sayToAll_44 : decode cX0_sayToAll 44 = .ok (.lcmp, 1) := by decide +kernel
theorem dX0_sayToAll_45 : decode cX0_sayToAll 45 = .ok (.ifCond .lt 27, 3) := by decide +kernel
theorem dX0_sayToAll_48 : decode cX0_sayToAll 48 = .ok (.aload 5, 2) := by decide +kernel
theorem dX0_sayToAll_50 : decode cX0_sayToAll 50 = .ok (.iload 7, 2) := by decide +kernel
theorem dX0_sayToAll_52 : decode cX0_sayToAll 52 = .ok (.bipush 7, 2) := by decide +kernel
theorem dX0_sayToAll_54 : decode cX0_sayToAll 54 = .ok (.imul, 1) := by decide +kernel
theorem dX0_sayToAll_55 : decode cX0_sayToAll 55 = .ok (.iload_n 3, 1) := by decide +kernel
theorem dX0_sayToAll_56 : decode cX0_sayToAll 56 = .ok (.iadd, 1) := by decide +kernel
theorem dX0_sayToAll_57 : decode cX0_sayToAll 57 = .ok (.lload 8, 2) := by decide +kernel
theorem dX0_sayToAll_59 : decode cX0_sayToAll 59 = .ok (.l2i, 1) := by decide +kernel
theorem dX0_sayToAll_60 : decode cX0_sayToAll 60 = .ok (.iastore, 1) := by decide +kernel
theorem dX0_sayToAll_61 : decode cX0_sayToAll 61 = .ok (.aload 6, 2) := by decide +kernel
theorem dX0_sayToAll_63 : decode cX0_sayToAll 63 = .ok (.iload 7, 2) := by decide +kernel
theorem dX0_sayToAll_65 : decode cX0_sayToAll 65 = .ok (.dup2, 1) := by decide +kernel
theorem dX0_sayToAll_66 : decode cX0_sayToAll 66 = .ok (.iaload, 1) := by decide +kernel
theorem dX0_sayToAll_67 : decode cX0_sayToAll 67 = .ok (.iconst 1, 1) := by decide +kernel
theorem dX0_sayToAll_68 : decode cX0_sayToAll 68 = .ok (.iload_n 3, 1) := by decide +kernel
theorem dX0_sayToAll_69 : decode cX0_sayToAll 69 = .ok (.ishl, 1) := by decide +kernel
theorem dX0_sayToAll_70 : decode cX0_sayToAll 70 = .ok (.ior, 1) := by decide +kernel
theorem dX0_sayToAll_71 : decode cX0_sayToAll 71 = .ok (.iastore, 1) := by decide +kernel
theorem dX0_sayToAll_72 : decode cX0_sayToAll 72 = .ok (.iinc 7 1, 3) := by decide +kernel
theorem dX0_sayToAll_75 : decode cX0_sayToAll 75 = .ok (.goto (-72), 3) := by decide +kernel
theorem dX0_sayToAll_78 : decode cX0_sayToAll 78 = .ok (.return_, 1) := by decide +kernel
theorem dX0_sayReadies_0 : decode cX0_sayReadies 0 = .ok (.iconst 0, 1) := by decide +kernel
theorem dX0_sayReadies_1 : decode cX0_sayReadies 1 = .ok (.istore_n 3, 1) := by decide +kernel
theorem dX0_sayReadies_2 : decode cX0_sayReadies 2 = .ok (.iload_n 3, 1) := by decide +kernel
theorem dX0_sayReadies_3 : decode cX0_sayReadies 3 = .ok (.aload_n 1, 1) := by decide +kernel
theorem dX0_sayReadies_4 : decode cX0_sayReadies 4 = .ok (.getfield 47, 3) := by decide +kernel
theorem dX0_sayReadies_7 : decode cX0_sayReadies 7 = .ok (.if_icmp .ge 25, 3) := by decide +kernel
theorem dX0_sayReadies_10 : decode cX0_sayReadies 10 = .ok (.aload_n 0, 1) := by decide +kernel
theorem dX0_sayReadies_11 : decode cX0_sayReadies 11 = .ok (.getfield 18, 3) := by decide +kernel
theorem dX0_sayReadies_14 : decode cX0_sayReadies 14 = .ok (.iload_n 3, 1) := by decide +kernel
theorem dX0_sayReadies_15 : decode cX0_sayReadies 15 = .ok (.iaload, 1) := by decide +kernel
theorem dX0_sayReadies_16 : decode cX0_sayReadies 16 = .ok (.ifCond .ne 10, 3) := by decide +kernel
theorem dX0_sayReadies_19 : decode cX0_sayReadies 19 = .ok (.aload_n 0, 1) := by decide +kernel
theorem dX0_sayReadies_20 : decode cX0_sayReadies 20 = .ok (.aload_n 1, 1) := by decide +kernel
theorem dX0_sayReadies_21 : decode cX0_sayReadies 21 = .ok (.iload_n 3, 1) := by decide +kernel
theorem dX0_sayReadies_22 : decode cX0_sayReadies 22 = .ok (.iload_n 2, 1) := by decide +kernel
theorem dX0_sayReadies_23 : decode cX0_sayReadies 23 = .ok (.invokevirtual 126, 3) := by decide +kernel
theorem dX0_sayReadies_26 : decode cX0_sayReadies 26 = .ok (.iinc 3 1, 3) := by decide +kernel
theorem dX0_sayReadies_29 : decode cX0_sayReadies 29 = .ok (.goto (-27), 3) := by decide +kernel
theorem dX0_sayReadies_32 : decode cX0_sayReadies 32 = .ok (.iconst 0, 1) := by decide +kernel
theorem dX0_sayReadies_33 : decode cX0_sayReadies 33 = .ok (.istore_n 3, 1) := by decide +kernel
theorem dX0_sayReadies_34 : decode cX0_sayReadies 34 = .ok (.iload_n 3, 1) := by decide +kernel
theorem dX0_sayReadies_35 : decode cX0_sayReadies 35 = .ok (.aload_n 1, 1) := by decide +kernel
theorem dX0_sayReadies_36 : decode cX0_sayReadies 36 = .ok (.getfield 47, 3) := by decide +kernel
theorem dX0_sayReadies_39 : decode cX0_sayReadies 39 = .ok (.if_icmp .ge 40, 3) := by decide +kernel
theorem dX0_sayReadies_42 : decode cX0_sayReadies 42 = .ok (.aload_n 0, 1) := by decide +kernel
theorem dX0_sayReadies_43 : decode cX0_sayReadies 43 = .ok (.getfield 18, 3) := by decide +kernel
theorem dX0_sayReadies_46 : decode cX0_sayReadies 46 = .ok (.iload_n 3, 1) := by decide +kernel
theorem dX0_sayReadies_47 : decode cX0_sayReadies 47 = .ok (.iaload, 1) := by decide +kernel
theorem dX0_sayReadies_48 : decode cX0_sayReadies 48 = .ok (.iload_n 2, 1) := by decide +kernel
theorem dX0_sayReadies_49 : decode cX0_sayReadies 49 = .ok (.if_icmp .ne 24, 3) := by decide +kernel
theorem dX0_sayReadies_52 : decode cX0_sayReadies 52 = .ok (.aload_n 0, 1) := by decide +kernel
theorem dX0_sayReadies_53 : decode cX0_sayReadies 53 = .ok (.aload_n 1, 1) := by decide +kernel
theorem dX0_sayReadies_54 : decode cX0_sayReadies 54 = .ok (.iconst 3, 1) := by decide +kernel
theorem dX0_sayReadies_55 : decode cX0_sayReadies 55 = .ok (.iload_n 3, 1) := by decide +kernel
theorem dX0_sayReadies_56 : decode cX0_sayReadies 56 = .ok (.aload_n 0, 1) := by decide +kernel
theorem dX0_sayReadies_57 : decode cX0_sayReadies 57 = .ok (.getfield 36, 3) := by decide +kernel
theorem dX0_sayReadies_60 : decode cX0_sayReadies 60 = .ok (.iload_n 3, 1) := by decide +kernel
theorem dX0_sayReadies_61 : decode cX0_sayReadies 61 = .ok (.iaload, 1) := by decide +kernel
theorem dX0_sayReadies_62 : decode cX0_sayReadies 62 = .ok (.aload_n 0, 1) := by decide +kernel
theorem dX0_sayReadies_63 : decode cX0_sayReadies 63 = .ok (.getfield 33, 3) := by decide +kernel
theorem dX0_sayReadies_66 : decode cX0_sayReadies 66 = .ok (.aload_n 0, 1) := by decide +kernel
theorem dX0_sayReadies_67 : decode cX0_sayReadies 67 = .ok (.getfield 24, 3) := by decide +kernel
theorem dX0_sayReadies_70 : decode cX0_sayReadies 70 = .ok (.invokevirtual 62, 3) := by decide +kernel
theorem dX0_sayReadies_73 : decode cX0_sayReadies 73 = .ok (.iinc 3 1, 3) := by decide +kernel
theorem dX0_sayReadies_76 : decode cX0_sayReadies 76 = .ok (.goto (-42), 3) := by decide +kernel
theorem dX0_sayReadies_79 : decode cX0_sayReadies 79 = .ok (.return_, 1) := by decide +kernel
theorem dX0_makeReady_0 : decode cX0_makeReady 0 = .ok (.iload_n 2, 1) := by decide +kernel
theorem dX0_makeReady_1 : decode cX0_makeReady 1 = .ok (.bipush 7, 2) := by decide +kernel
theorem dX0_makeReady_3 : decode cX0_makeReady 3 = .ok (.imul, 1) := by decide +kernel
theorem dX0_makeReady_4 : decode cX0_makeReady 4 = .ok (.istore 4, 2) := by decide +kernel
theorem dX0_makeReady_6 : decode cX0_makeReady 6 = .ok (.aload_n 0, 1) := by decide +kernel
theorem dX0_makeReady_7 : decode cX0_makeReady 7 = .ok (.getfield 30, 3) := by decide +kernel
theorem dX0_makeReady_10 : decode cX0_makeReady 10 = .ok (.iload 4, 2) := by decide +kernel
theorem dX0_makeReady_12 : decode cX0_makeReady 12 = .ok (.aload_n 0, 1) := by decide +kernel
theorem dX0_makeReady_13 : decode cX0_makeReady 13 = .ok (.getfield 21, 3) := by decide +kernel
theorem dX0_makeReady_16 : decode cX0_makeReady 16 = .ok (.iload_n 2, 1) := by decide +kernel
theorem dX0_makeReady_17 : decode cX0_makeReady 17 = .ok (.iaload, 1) := by decide +kernel
theorem dX0_makeReady_18 : decode cX0_makeReady 18 = .ok (.aload_n 1, 1) := by decide +kernel
theorem dX0_makeReady_19 : decode cX0_makeReady 19 = .ok (.getfield 47, 3) := by decide +kernel
theorem dX0_makeReady_22 : decode cX0_makeReady 22 = .ok (.aload_n 1, 1) := by decide +kernel
theorem dX0_makeReady_23 : decode cX0_makeReady 23 = .ok (.getfield 130, 3) := by decide +kernel
theorem dX0_makeReady_26 : decode cX0_makeReady 26 = .ok (.iadd, 1) := by decide +kernel
theorem dX0_makeReady_27 : decode cX0_makeReady 27 = .ok (.iconst 2, 1) := by decide +kernel
theorem dX0_makeReady_28 : decode cX0_makeReady 28 = .ok (.idiv, 1) := by decide +kernel
theorem dX0_makeReady_29 : decode cX0_makeReady 29 = .ok (.invokestatic 133, 3) := by decide +kernel
theorem dX0_makeReady_32 : decode cX0_makeReady 32 = .ok (.istore 5, 2) := by decide +kernel
theorem dX0_makeReady_34 : decode cX0_makeReady 34 = .ok (.aload_n 0, 1) := by decide +kernel
theorem dX0_makeReady_35 : decode cX0_makeReady 35 = .ok (.getfield 33, 3) := by decide +kernel
theorem dX0_makeReady_38 : decode cX0_makeReady 38 = .ok (.iload 4, 2) := by decide +kernel
theorem dX0_makeReady_40 : decode cX0_makeReady 40 = .ok (.aload_n 0, 1) := by decide +kernel
theorem dX0_makeReady_41 : decode cX0_makeReady 41 = .ok (.getfield 24, 3) := by decide +kernel
theorem dX0_makeReady_44 : decode cX0_makeReady 44 = .ok (.iload_n 2, 1) := by decide +kernel
theorem dX0_makeReady_45 : decode cX0_makeReady 45 = .ok (.iaload, 1) := by decide +kernel
theorem dX0_makeReady_46 : decode cX0_makeReady 46 = .ok (.aload_n 1, 1) := by decide +kernel
theorem dX0_makeReady_47 : decode cX0_makeReady 47 = .ok (.getfield 130, 3) := by decide +kernel
theorem dX0_makeReady_50 : decode cX0_makeReady 50 = .ok (.invokestatic 133, 3) := by decide +kernel
theorem dX0_makeReady_53 : decode cX0_makeReady 53 = .ok (.istore 6, 2) := by decide +kernel
theorem dX0_makeReady_55 : decode cX0_makeReady 55 = .ok (.iload 5, 2) := by decide +kernel
theorem dX0_makeReady_57 : decode cX0_makeReady 57 = .ok (.iconst (-1), 1) := by decide +kernel
theorem dX0_makeReady_58 : decode cX0_makeReady 58 = .ok (.if_icmp .ne 9, 3) := by decide +kernel
theorem dX0_makeReady_61 : decode cX0_makeReady 61 = .ok (.iload 6, 2) := by decide +kernel
theorem dX0_makeReady_63 : decode cX0_makeReady 63 = .ok (.iconst (-1), 1) := by decide +kernel
theorem dX0_makeReady_64 : decode cX0_makeReady 64 = .ok (.if_icmp .eq 45, 3) := by decide +kernel
theorem dX0_makeReady_67 : decode cX0_makeReady 67 = .ok (.aload_n 0, 1) := by decide +kernel
theorem dX0_makeReady_68 : decode cX0_makeReady 68 = .ok (.getfield 36, 3) := by decide +kernel
theorem dX0_makeReady_71 : decode cX0_makeReady 71 = .ok (.iload_n 2, 1) := by decide +kernel
theorem dX0_makeReady_72 : decode cX0_makeReady 72 = .ok (.iload 5, 2) := by decide +kernel
theorem dX0_makeReady_74 : decode cX0_makeReady 74 = .ok (.iconst (-1), 1) := by decide +kernel
theorem dX0_makeReady_75 : decode cX0_makeReady 75 = .ok (.if_icmp .eq 16, 3) := by decide +kernel
theorem dX0_makeReady_78 : decode cX0_makeReady 78 = .ok (.aload_n 0, 1) := by decide +kernel
theorem dX0_makeReady_79 : decode cX0_makeReady 79 = .ok (.getfield 30, 3) := by decide +kernel
theorem dX0_makeReady_82 : decode cX0_makeReady 82 = .ok (.iload 4, 2) := by decide +kernel
theorem dX0_makeReady_84 : decode cX0_makeReady 84 = .ok (.iload 5, 2) := by decide +kernel
theorem dX0_makeReady_86 : decode cX0_makeReady 86 = .ok (.iadd, 1) := by decide +kernel
theorem dX0_makeReady_87 : decode cX0_makeReady 87 = .ok (.iaload, 1) := by decide +kernel
theorem dX0_makeReady_88 : decode cX0_makeReady 88 = .ok (.goto 13, 3) := by decide +kernel
theorem dX0_makeReady_91 : decode cX0_makeReady 91 = .ok (.aload_n 0, 1) := by decide +kernel
theorem dX0_makeReady_92 : decode cX0_makeReady 92 = .ok (.getfield 33, 3) := by decide +kernel
theorem dX0_makeReady_95 : decode cX0_makeReady 95 = .ok (.iload 4, 2) := by decide +kernel
theorem dX0_makeReady_97 : decode cX0_makeReady 97 = .ok (.iload 6, 2) := by decide +kernel
theorem dX0_makeReady_99 : decode cX0_makeReady 99 = .ok (.iadd, 1) := by decide +kernel
theorem dX0_makeReady_100 : decode cX0_makeReady 100 = .ok (.iaload, 1) := by decide +kernel
theorem dX0_makeReady_101 : decode cX0_makeReady 101 = .ok (.iastore, 1) := by decide +kernel
theorem dX0_makeReady_102 : decode cX0_makeReady 102 = .ok (.aload_n 0, 1) := by decide +kernel
theorem dX0_makeReady_103 : decode cX0_makeReady 103 = .ok (.getfield 18, 3) := by decide +kernel
theorem dX0_makeReady_106 : decode cX0_makeReady 106 = .ok (.iload_n 2, 1) := by decide +kernel
theorem dX0_makeReady_107 : decode cX0_makeReady 107 = .ok (.iload_n 3, 1) := by decide +kernel
theorem dX0_makeReady_108 : decode cX0_makeReady 108 = .ok (.iastore, 1) := by decide +kernel
theorem dX0_makeReady_109 : decode cX0_makeReady 109 = .ok (.return_, 1) := by decide +kernel
theorem dX0_accept_0 : decode cX0_accept 0 = .ok (.iconst 0, 1) := by decide +kernel
theorem dX0_accept_1 : decode cX0_accept 1 = .ok (.istore_n 3, 1) := by decide +kernel
theorem dX0_accept_2 : decode cX0_accept 2 = .ok (.iload_n 3, 1) := by decide +kernel
theorem dX0_accept_3 : decode cX0_accept 3 = .ok (.aload_n 1, 1) := by decide +kernel
theorem dX0_accept_4 : decode cX0_accept 4 = .ok (.getfield 47, 3) := by decide +kernel
theorem dX0_accept_7 : decode cX0_accept 7 = .ok (.if_icmp .ge 76, 3) := by decide +kernel
theorem dX0_accept_10 : decode cX0_accept 10 = .ok (.iload_n 3, 1) := by decide +kernel
theorem dX0_accept_11 : decode cX0_accept 11 = .ok (.bipush 7, 2) := by decide +kernel
theorem dX0_accept_13 : decode cX0_accept 13 = .ok (.imul, 1) := by decide +kernel
theorem dX0_accept_14 : decode cX0_accept 14 = .ok (.istore 4, 2) := by decide +kernel
theorem dX0_accept_16 : decode cX0_accept 16 = .ok (.aload_n 0, 1) := by decide +kernel
theorem dX0_accept_17 : decode cX0_accept 17 = .ok (.getfield 33, 3) := by decide +kernel
theorem dX0_accept_20 : decode cX0_accept 20 = .ok (.iload 4, 2) := by decide +kernel
theorem dX0_accept_22 : decode cX0_accept 22 = .ok (.aload_n 0, 1) := by decide +kernel
theorem dX0_accept_23 : decode cX0_accept 23 = .ok (.getfield 24, 3) := by decide +kernel
theorem dX0_accept_26 : decode cX0_accept 26 = .ok (.iload_n 3, 1) := by decide +kernel
theorem dX0_accept_27 : decode cX0_accept 27 = .ok (.iaload, 1) := by decide +kernel
theorem dX0_accept_28 : decode cX0_accept 28 = .ok (.iconst 2, 1) := by decide +kernel
theorem dX0_accept_29 : decode cX0_accept 29 = .ok (.aload_n 1, 1) := by decide +kernel
theorem dX0_accept_30 : decode cX0_accept 30 = .ok (.getfield 130, 3) := by decide +kernel
theorem dX0_accept_33 : decode cX0_accept 33 = .ok (.imul, 1) := by decide +kernel
theorem dX0_accept_34 : decode cX0_accept 34 = .ok (.invokestatic 133, 3) := by decide +kernel
theorem dX0_accept_37 : decode cX0_accept 37 = .ok (.istore 5, 2) := by decide +kernel
theorem dX0_accept_39 : decode cX0_accept 39 = .ok (.iload 5, 2) := by decide +kernel
theorem dX0_accept_41 : decode cX0_accept 41 = .ok (.iconst (-1), 1) := by decide +kernel
theorem dX0_accept_42 : decode cX0_accept 42 = .ok (.if_icmp .eq 35, 3) := by decide +kernel
theorem dX0_accept_45 : decode cX0_accept 45 = .ok (.aload_n 0, 1) := by decide +kernel
theorem dX0_accept_46 : decode cX0_accept 46 = .ok (.getfield 15, 3) := by decide +kernel
theorem dX0_accept_49 : decode cX0_accept 49 = .ok (.iload_n 3, 1) := by decide +kernel
theorem dX0_accept_50 : decode cX0_accept 50 = .ok (.iaload, 1) := by decide +kernel
theorem dX0_accept_51 : decode cX0_accept 51 = .ok (.ifCond .ne 26, 3) := by decide +kernel
theorem dX0_accept_54 : decode cX0_accept 54 = .ok (.aload_n 0, 1) := by decide +kernel
theorem dX0_accept_55 : decode cX0_accept 55 = .ok (.getfield 9, 3) := by decide +kernel
theorem dX0_accept_58 : decode cX0_accept 58 = .ok (.iload_n 3, 1) := by decide +kernel
theorem dX0_accept_59 : decode cX0_accept 59 = .ok (.aload_n 0, 1) := by decide +kernel
theorem dX0_accept_60 : decode cX0_accept 60 = .ok (.getfield 33, 3) := by decide +kernel
theorem dX0_accept_63 : decode cX0_accept 63 = .ok (.iload 4, 2) := by decide +kernel
theorem dX0_accept_65 : decode cX0_accept 65 = .ok (.iload 5, 2) := by decide +kernel
theorem dX0_accept_67 : decode cX0_accept 67 = .ok (.iadd, 1) := by decide +kernel
theorem dX0_accept_68 : decode cX0_accept 68 = .ok (.iaload, 1) := by decide +kernel
theorem dX0_accept_69 : decode cX0_accept 69 = .ok (.iastore, 1) := by decide +kernel
theorem dX0_accept_70 : decode cX0_accept 70 = .ok (.aload_n 0, 1) := by decide +kernel
theorem dX0_accept_71 : decode cX0_accept 71 = .ok (.getfield 15, 3) := by decide +kernel
theorem dX0_accept_74 : decode cX0_accept 74 = .ok (.iload_n 3, 1) := by decide +kernel
theorem dX0_accept_75 : decode cX0_accept 75 = .ok (.iload_n 2, 1) := by decide +kernel
theorem dX0_accept_76 : decode cX0_accept 76 = .ok (.iastore, 1) := by decide +kernel
theorem dX0_accept_77 : decode cX0_accept 77 = .ok (.iinc 3 1, 3) := by decide +kernel
theorem dX0_accept_80 : decode cX0_accept 80 = .ok (.goto (-78), 3) := by decide +kernel
theorem dX0_accept_83 : decode cX0_accept 83 = .ok (.return_, 1) := by decide +kernel
theorem dX0_firstAbove_0 : decode cX0_firstAbove 0 = .ok (.iconst 0, 1) := by decide +kernel
theorem dX0_firstAbove_1 : decode cX0_firstAbove 1 = .ok (.istore 4, 2) := by decide +kernel
theorem dX0_firstAbove_3 : decode cX0_firstAbove 3 = .ok (.iload 4, 2) := by decide +kernel
theorem dX0_firstAbove_5 : decode cX0_firstAbove 5 = .ok (.bipush 7, 2) := by decide +kernel
theorem dX0_firstAbove_7 : decode cX0_firstAbove 7 = .ok (.if_icmp .ge 37, 3) := by decide +kernel
theorem dX0_firstAbove_10 : decode cX0_firstAbove 10 = .ok (.iload_n 2, 1) := by decide +kernel
theorem dX0_firstAbove_11 : decode cX0_firstAbove 11 = .ok (.iload 4, 2) := by decide +kernel
theorem dX0_firstAbove_13 : decode cX0_firstAbove 13 = .ok (.invokestatic 56, 3) := by decide +kernel
theorem dX0_firstAbove_16 : decode cX0_firstAbove 16 = .ok (.ifCond .eq 22, 3) := by decide +kernel
theorem dX0_firstAbove_19 : decode cX0_firstAbove 19 = .ok (.aload_n 0, 1) := by decide +kernel
theorem dX0_firstAbove_20 : decode cX0_firstAbove 20 = .ok (.iload_n 1, 1) := by decide +kernel
theorem dX0_firstAbove_21 : decode cX0_firstAbove 21 = .ok (.iload_n 2, 1) := by decide +kernel
theorem dX0_firstAbove_22 : decode cX0_firstAbove 22 = .ok (.aload_n 0, 1) := by decide +kernel
theorem dX0_firstAbove_23 : decode cX0_firstAbove 23 = .ok (.iload_n 1, 1) := by decide +kernel
theorem dX0_firstAbove_24 : decode cX0_firstAbove 24 = .ok (.iload 4, 2) := by decide +kernel
theorem dX0_firstAbove_26 : decode cX0_firstAbove 26 = .ok (.iadd, 1) := by decide +kernel
theorem dX0_firstAbove_27 : decode cX0_firstAbove 27 = .ok (.iaload, 1) := by decide +kernel
theorem dX0_firstAbove_28 : decode cX0_firstAbove 28 = .ok (.invokestatic 137, 3) := by decide +kernel
theorem dX0_firstAbove_31 : decode cX0_firstAbove 31 = .ok (.iload_n 3, 1) := by decide +kernel
theorem dX0_firstAbove_32 : decode cX0_firstAbove 32 = .ok (.if_icmp .le 6, 3) := by decide +kernel
theorem dX0_firstAbove_35 : decode cX0_firstAbove 35 = .ok (.iload 4, 2) := by decide +kernel
theorem dX0_firstAbove_37 : decode cX0_firstAbove 37 = .ok (.ireturn, 1) := by decide +kernel
theorem dX0_firstAbove_38 : decode cX0_firstAbove 38 = .ok (.iinc 4 1, 3) := by decide +kernel
theorem dX0_firstAbove_41 : decode cX0_firstAbove 41 = .ok (.goto (-38), 3) := by decide +kernel
theorem dX0_firstAbove_44 : decode cX0_firstAbove 44 = .ok (.iconst (-1), 1) := by decide +kernel
theorem dX0_firstAbove_45 : decode cX0_firstAbove 45 = .ok (.ireturn, 1) := by decide +kernel
theorem dX0_alikeIn_0 : decode cX0_alikeIn 0 = .ok (.iconst 0, 1) := by decide +kernel
theorem dX0_alikeIn_1 : decode cX0_alikeIn 1 = .ok (.istore 4, 2) := by decide +kernel
theorem dX0_alikeIn_3 : decode cX0_alikeIn 3 = .ok (.iconst 0, 1) := by decide +kernel
theorem dX0_alikeIn_4 : decode cX0_alikeIn 4 = .ok (.istore 5, 2) := by decide +kernel
theorem dX0_alikeIn_6 : decode cX0_alikeIn 6 = .ok (.iload 5, 2) := by decide +kernel
theorem dX0_alikeIn_8 : decode cX0_alikeIn 8 = .ok (.bipush 7, 2) := by decide +kernel
theorem dX0_alikeIn_10 : decode cX0_alikeIn 10 = .ok (.if_icmp .ge 38, 3) := by decide +kernel
theorem dX0_alikeIn_13 : decode cX0_alikeIn 13 = .ok (.iload 4, 2) := by decide +kernel
theorem dX0_alikeIn_15 : decode cX0_alikeIn 15 = .ok (.iload_n 2, 1) := by decide +kernel
theorem dX0_alikeIn_16 : decode cX0_alikeIn 16 = .ok (.iload 5, 2) := by decide +kernel
theorem dX0_alikeIn_18 : decode cX0_alikeIn 18 = .ok (.invokestatic 56, 3) := by decide +kernel
theorem dX0_alikeIn_21 : decode cX0_alikeIn 21 = .ok (.ifCond .eq 17, 3) := by decide +kernel
theorem dX0_alikeIn_24 : decode cX0_alikeIn 24 = .ok (.aload_n 0, 1) := by decide +kernel
theorem dX0_alikeIn_25 : decode cX0_alikeIn 25 = .ok (.iload_n 1, 1) := by decide +kernel
theorem dX0_alikeIn_26 : decode cX0_alikeIn 26 = .ok (.iload 5, 2) := by decide +kernel
theorem dX0_alikeIn_28 : decode cX0_alikeIn 28 = .ok (.iadd, 1) := by decide +kernel
theorem dX0_alikeIn_29 : decode cX0_alikeIn 29 = .ok (.iaload, 1) := by decide +kernel
theorem dX0_alikeIn_30 : decode cX0_alikeIn 30 = .ok (.iload_n 3, 1) := by decide +kernel
theorem dX0_alikeIn_31 : decode cX0_alikeIn 31 = .ok (.if_icmp .ne 7, 3) := by decide +kernel
theorem dX0_alikeIn_34 : decode cX0_alikeIn 34 = .ok (.iconst 1, 1) := by decide +kernel
theorem dX0_alikeIn_35 : decode cX0_alikeIn 35 = .ok (.goto 4, 3) := by decide +kernel
theorem dX0_alikeIn_38 : decode cX0_alikeIn 38 = .ok (.iconst 0, 1) := by decide +kernel
theorem dX0_alikeIn_39 : decode cX0_alikeIn 39 = .ok (.iadd, 1) := by decide +kernel
theorem dX0_alikeIn_40 : decode cX0_alikeIn 40 = .ok (.istore 4, 2) := by decide +kernel
theorem dX0_alikeIn_42 : decode cX0_alikeIn 42 = .ok (.iinc 5 1, 3) := by decide +kernel
theorem dX0_alikeIn_45 : decode cX0_alikeIn 45 = .ok (.goto (-39), 3) := by decide +kernel
theorem dX0_alikeIn_48 : decode cX0_alikeIn 48 = .ok (.iload 4, 2) := by decide +kernel
theorem dX0_alikeIn_50 : decode cX0_alikeIn 50 = .ok (.ireturn, 1) := by decide +kernel
theorem dX1_bitsOf_0 : decode cX1_bitsOf 0 = .ok (.fload_n 0, 1) := by decide +kernel
theorem dX1_bitsOf_1 : decode cX1_bitsOf 1 = .ok (.invokestatic 7, 3) := by decide +kernel
theorem dX1_bitsOf_4 : decode cX1_bitsOf 4 = .ok (.ifCond .eq 8, 3) := by decide +kernel
theorem dX1_bitsOf_7 : decode cX1_bitsOf 7 = .ok (.ldc 13, 2) := by decide +kernel
theorem dX1_bitsOf_9 : decode cX1_bitsOf 9 = .ok (.goto 4, 3) := by decide +kernel
theorem dX1_bitsOf_12 : decode cX1_bitsOf 12 = .ok (.iconst 0, 1) := by decide +kernel
theorem dX1_bitsOf_13 : decode cX1_bitsOf 13 = .ok (.istore_n 1, 1) := by decide +kernel
theorem dX1_bitsOf_14 : decode cX1_bitsOf 14 = .ok (.fload_n 0, 1) := by decide +kernel
theorem dX1_bitsOf_15 : decode cX1_bitsOf 15 = .ok (.fconst 0, 1) := by decide +kernel
theorem dX1_bitsOf_16 : decode cX1_bitsOf 16 = .ok (.fcmp .l, 1) := by decide +kernel
theorem dX1_bitsOf_17 : decode cX1_bitsOf 17 = .ok (.ifCond .ne 5, 3) := by decide +kernel
theorem dX1_bitsOf_20 : decode cX1_bitsOf 20 = .ok (.iload_n 1, 1) := by decide +kernel
theorem dX1_bitsOf_21 : decode cX1_bitsOf 21 = .ok (.ireturn, 1) := by decide +kernel
theorem dX1_bitsOf_22 : decode cX1_bitsOf 22 = .ok (.fload_n 0, 1) := by decide +kernel
theorem dX1_bitsOf_23 : decode cX1_bitsOf 23 = .ok (.fconst 0, 1) := by decide +kernel
theorem dX1_bitsOf_24 : decode cX1_bitsOf 24 = .ok (.fcmp .g, 1) := by decide +kernel
theorem dX1_bitsOf_25 : decode cX1_bitsOf 25 = .ok (.ifCond .ge 9, 3) := by decide +kernel
theorem dX1_bitsOf_28 : decode cX1_bitsOf 28 = .ok (.fload_n 0, 1) := by decide +kernel
theorem dX1_bitsOf_29 : decode cX1_bitsOf 29 = .ok (.f2d, 1) := by decide +kernel
theorem dX1_bitsOf_30 : decode cX1_bitsOf 30 = .ok (.dneg, 1) := by decide +kernel
theorem dX1_bitsOf_31 : decode cX1_bitsOf 31 = .ok (.goto 5, 3) := by decide +kernel
theorem dX1_bitsOf_34 : decode cX1_bitsOf 34 = .ok (.fload_n 0, 1) := by decide +kernel
theorem dX1_bitsOf_35 : decode cX1_bitsOf 35 = .ok (.f2d, 1) := by decide +kernel
theorem dX1_bitsOf_36 : decode cX1_bitsOf 36 = .ok (.dstore_n 2, 1) := by decide +kernel
theorem dX1_bitsOf_37 : decode cX1_bitsOf 37 = .ok (.dload_n 2, 1) := by decide +kernel
theorem dX1_bitsOf_38 : decode cX1_bitsOf 38 = .ok (.bipush (-126), 2) := by decide +kernel
theorem dX1_bitsOf_40 : decode cX1_bitsOf 40 = .ok (.invokestatic 14, 3) := by decide +kernel
theorem dX1_bitsOf_43 : decode cX1_bitsOf 43 = .ok (.istore 4, 2) := by decide +kernel
theorem dX1_bitsOf_45 : decode cX1_bitsOf 45 = .ok (.dload_n 2, 1) := by decide +kernel
theorem dX1_bitsOf_46 : decode cX1_bitsOf 46 = .ok (.iload 4, 2) := by decide +kernel
theorem dX1_bitsOf_48 : decode cX1_bitsOf 48 = .ok (.ineg, 1) := by decide +kernel
theorem dX1_bitsOf_49 : decode cX1_bitsOf 49 = .ok (.invokestatic 18, 3) := by decide +kernel
theorem dX1_bitsOf_52 : decode cX1_bitsOf 52 = .ok (.dstore_n 2, 1) := by decide +kernel
theorem dX1_bitsOf_53 : decode cX1_bitsOf 53 = .ok (.dload_n 2, 1) := by decide +kernel
theorem dX1_bitsOf_54 : decode cX1_bitsOf 54 = .ok (.dconst 1, 1) := by decide +kernel
theorem dX1_bitsOf_55 : decode cX1_bitsOf 55 = .ok (.dcmp .g, 1) := by decide +kernel
theorem dX1_bitsOf_56 : decode cX1_bitsOf 56 = .ok (.ifCond .ge 12, 3) := by decide +kernel
theorem dX1_bitsOf_59 : decode cX1_bitsOf 59 = .ok (.iload_n 1, 1) := by decide +kernel
theorem dX1_bitsOf_60 : decode cX1_bitsOf 60 = .ok (.dload_n 2, 1) := by decide +kernel
theorem dX1_bitsOf_61 : decode cX1_bitsOf 61 = .ok (.ldc2_w 22, 3) := by decide +kernel
theorem dX1_bitsOf_64 : decode cX1_bitsOf 64 = .ok (.dmul, 1) := by decide +kernel
theorem dX1_bitsOf_65 : decode cX1_bitsOf 65 = .ok (.d2i, 1) := by decide +kernel
theorem dX1_bitsOf_66 : decode cX1_bitsOf 66 = .ok (.ior, 1) := by decide +kernel
theorem dX1_bitsOf_67 : decode cX1_bitsOf 67 = .ok (.ireturn, 1) := by decide +kernel
theorem dX1_bitsOf_68 : decode cX1_bitsOf 68 = .ok (.iload_n 1, 1) := by decide +kernel
theorem dX1_bitsOf_69 : decode cX1_bitsOf 69 = .ok (.iload 4, 2) := by decide +kernel
theorem dX1_bitsOf_71 : decode cX1_bitsOf 71 = .ok (.bipush 127, 2) := by decide +kernel
theorem dX1_bitsOf_73 : decode cX1_bitsOf 73 = .ok (.iadd, 1) := by decide +kernel
theorem dX1_bitsOf_74 : decode cX1_bitsOf 74 = .ok (.bipush 23, 2) := by decide +kernel
theorem dX1_bitsOf_76 : decode cX1_bitsOf 76 = .ok (.ishl, 1) := by decide +kernel
theorem dX1_bitsOf_77 : decode cX1_bitsOf 77 = .ok (.ior, 1) := by decide +kernel
theorem dX1_bitsOf_78 : decode cX1_bitsOf 78 = .ok (.dload_n 2, 1) := by decide +kernel
theorem dX1_bitsOf_79 : decode cX1_bitsOf 79 = .ok (.dconst 1, 1) := by decide +kernel
theorem dX1_bitsOf_80 : decode cX1_bitsOf 80 = .ok (.dsub, 1) := by decide +kernel
theorem dX1_bitsOf_81 : decode cX1_bitsOf 81 = .ok (.ldc2_w 22, 3) := by decide +kernel
theorem dX1_bitsOf_84 : decode cX1_bitsOf 84 = .ok (.dmul, 1) := by decide +kernel
theorem dX1_bitsOf_85 : decode cX1_bitsOf 85 = .ok (.d2i, 1) := by decide +kernel
theorem dX1_bitsOf_86 : decode cX1_bitsOf 86 = .ok (.ior, 1) := by decide +kernel
theorem dX1_bitsOf_87 : decode cX1_bitsOf 87 = .ok (.ireturn, 1) := by decide +kernel
theorem dX1_bitsOfDouble_0 : decode cX1_bitsOfDouble 0 = .ok (.dload_n 0, 1) := by decide +kernel
theorem dX1_bitsOfDouble_1 : decode cX1_bitsOfDouble 1 = .ok (.dconst 0, 1) := by decide +kernel
theorem dX1_bitsOfDouble_2 : decode cX1_bitsOfDouble 2 = .ok (.dcmp .l, 1) := by decide +kernel
theorem dX1_bitsOfDouble_3 : decode cX1_bitsOfDouble 3 = .ok (.ifCond .ne 5, 3) := by decide +kernel
theorem dX1_bitsOfDouble_6 : decode cX1_bitsOfDouble 6 = .ok (.lconst 0, 1) := by decide +kernel
theorem dX1_bitsOfDouble_7 : decode cX1_bitsOfDouble 7 = .ok (.lreturn, 1) := by decide +kernel
theorem dX1_bitsOfDouble_8 : decode cX1_bitsOfDouble 8 = .ok (.dload_n 0, 1) := by decide +kernel
theorem dX1_bitsOfDouble_9 : decode cX1_bitsOfDouble 9 = .ok (.dconst 0, 1) := by decide +kernel
theorem dX1_bitsOfDouble_10 : decode cX1_bitsOfDouble 10 = .ok (.dcmp .g, 1) := by decide +kernel
theorem dX1_bitsOfDouble_11 : decode cX1_bitsOfDouble 11 = .ok (.ifCond .ge 9, 3) := by decide +kernel
theorem dX1_bitsOfDouble_14 : decode cX1_bitsOfDouble 14 = .ok (.ldc2_w 24, 3) := by decide +kernel
theorem dX1_bitsOfDouble_17 : decode cX1_bitsOfDouble 17 = .ok (.goto 4, 3) := by decide +kernel
theorem dX1_bitsOfDouble_20 : decode cX1_bitsOfDouble 20 = .ok (.lconst 0, 1) := by decide +kernel
theorem dX1_bitsOfDouble_21 : decode cX1_bitsOfDouble 21 = .ok (.lstore_n 2, 1) := by decide +kernel
theorem dX1_bitsOfDouble_22 : decode cX1_bitsOfDouble 22 = .ok (.dload_n 0, 1) := by decide +kernel
theorem dX1_bitsOfDouble_23 : decode cX1_bitsOfDouble 23 = .ok (.dconst 0, 1) := by decide +kernel
theorem dX1_bitsOfDouble_24 : decode cX1_bitsOfDouble 24 = .ok (.dcmp .g, 1) := by decide +kernel
theorem dX1_bitsOfDouble_25 : decode cX1_bitsOfDouble 25 = .ok (.ifCond .ge 8, 3) := by decide +kernel
theorem dX1_bitsOfDouble_28 : decode cX1_bitsOfDouble 28 = .ok (.dload_n 0, 1) := by decide +kernel
theorem dX1_bitsOfDouble_29 : decode cX1_bitsOfDouble 29 = .ok (.dneg, 1) := by decide +kernel
theorem dX1_bitsOfDouble_30 : decode cX1_bitsOfDouble 30 = .ok (.goto 4, 3) := by decide +kernel
theorem dX1_bitsOfDouble_33 : decode cX1_bitsOfDouble 33 = .ok (.dload_n 0, 1) := by decide +kernel
theorem dX1_bitsOfDouble_34 : decode cX1_bitsOfDouble 34 = .ok (.dstore 4, 2) := by decide +kernel
theorem dX1_bitsOfDouble_36 : decode cX1_bitsOfDouble 36 = .ok (.dload 4, 2) := by decide +kernel
theorem dX1_bitsOfDouble_38 : decode cX1_bitsOfDouble 38 = .ok (.sipush (-1022), 3) := by decide +kernel
theorem dX1_bitsOfDouble_41 : decode cX1_bitsOfDouble 41 = .ok (.invokestatic 14, 3) := by decide +kernel
theorem dX1_bitsOfDouble_44 : decode cX1_bitsOfDouble 44 = .ok (.istore 6, 2) := by decide +kernel
theorem dX1_bitsOfDouble_46 : decode cX1_bitsOfDouble 46 = .ok (.dload 4, 2) := by decide +kernel
theorem dX1_bitsOfDouble_48 : decode cX1_bitsOfDouble 48 = .ok (.iload 6, 2) := by decide +kernel
theorem dX1_bitsOfDouble_50 : decode cX1_bitsOfDouble 50 = .ok (.ineg, 1) := by decide +kernel
theorem dX1_bitsOfDouble_51 : decode cX1_bitsOfDouble 51 = .ok (.invokestatic 18, 3) := by decide +kernel
theorem dX1_bitsOfDouble_54 : decode cX1_bitsOfDouble 54 = .ok (.dstore 4, 2) := by decide +kernel
theorem dX1_bitsOfDouble_56 : decode cX1_bitsOfDouble 56 = .ok (.lload_n 2, 1) := by decide +kernel
theorem dX1_bitsOfDouble_57 : decode cX1_bitsOfDouble 57 = .ok (.iload 6, 2) := by decide +kernel
theorem dX1_bitsOfDouble_59 : decode cX1_bitsOfDouble 59 = .ok (.sipush 1023, 3) := by decide +kernel
theorem dX1_bitsOfDouble_62 : decode cX1_bitsOfDouble 62 = .ok (.iadd, 1) := by decide +kernel
theorem dX1_bitsOfDouble_63 : decode cX1_bitsOfDouble 63 = .ok (.i2l, 1) := by decide +kernel
theorem dX1_bitsOfDouble_64 : decode cX1_bitsOfDouble 64 = .ok (.bipush 52, 2) := by decide +kernel
theorem dX1_bitsOfDouble_66 : decode cX1_bitsOfDouble 66 = .ok (.lshl, 1) := by decide +kernel
theorem dX1_bitsOfDouble_67 : decode cX1_bitsOfDouble 67 = .ok (.lor, 1) := by decide +kernel
theorem dX1_bitsOfDouble_68 : decode cX1_bitsOfDouble 68 = .ok (.dload 4, 2) := by decide +kernel
theorem dX1_bitsOfDouble_70 : decode cX1_bitsOfDouble 70 = .ok (.dconst 1, 1) := by decide +kernel
theorem dX1_bitsOfDouble_71 : decode cX1_bitsOfDouble 71 = .ok (.dsub, 1) := by decide +kernel
theorem dX1_bitsOfDouble_72 : decode cX1_bitsOfDouble 72 = .ok (.ldc2_w 26, 3) := by decide +kernel
theorem dX1_bitsOfDouble_75 : decode cX1_bitsOfDouble 75 = .ok (.dmul, 1) := by decide +kernel
theorem dX1_bitsOfDouble_76 : decode cX1_bitsOfDouble 76 = .ok (.d2l, 1) := by decide +kernel
theorem dX1_bitsOfDouble_77 : decode cX1_bitsOfDouble 77 = .ok (.lor, 1) := by decide +kernel
theorem dX1_bitsOfDouble_78 : decode cX1_bitsOfDouble 78 = .ok (.lreturn, 1) := by decide +kernel
theorem dX1_floatOf_0 : decode cX1_floatOf 0 = .ok (.iload_n 0, 1) := by decide +kernel
theorem dX1_floatOf_1 : decode cX1_floatOf 1 = .ok (.bipush 23, 2) := by decide +kernel
theorem dX1_floatOf_3 : decode cX1_floatOf 3 = .ok (.ishr, 1) := by decide +kernel
theorem dX1_floatOf_4 : decode cX1_floatOf 4 = .ok (.sipush 255, 3) := by decide +kernel
theorem dX1_floatOf_7 : decode cX1_floatOf 7 = .ok (.iand, 1) := by decide +kernel
theorem dX1_floatOf_8 : decode cX1_floatOf 8 = .ok (.istore_n 1, 1) := by decide +kernel
theorem dX1_floatOf_9 : decode cX1_floatOf 9 = .ok (.iload_n 1, 1) := by decide +kernel
theorem dX1_floatOf_10 : decode cX1_floatOf 10 = .ok (.ifCond .ne 5, 3) := by decide +kernel
theorem dX1_floatOf_13 : decode cX1_floatOf 13 = .ok (.fconst 0, 1) := by decide +kernel
theorem dX1_floatOf_14 : decode cX1_floatOf 14 = .ok (.freturn, 1) := by decide +kernel
theorem dX1_floatOf_15 : decode cX1_floatOf 15 = .ok (.iload_n 0, 1) := by decide +kernel
theorem dX1_floatOf_16 : decode cX1_floatOf 16 = .ok (.ldc 28, 2) := by decide +kernel
theorem dX1_floatOf_18 : decode cX1_floatOf 18 = .ok (.iand, 1) := by decide +kernel
theorem dX1_floatOf_19 : decode cX1_floatOf 19 = .ok (.ldc 29, 2) := by decide +kernel
theorem dX1_floatOf_21 : decode cX1_floatOf 21 = .ok (.iadd, 1) := by decide +kernel
theorem dX1_floatOf_22 : decode cX1_floatOf 22 = .ok (.i2d, 1) := by decide +kernel
theorem dX1_floatOf_23 : decode cX1_floatOf 23 = .ok (.dstore_n 2, 1) := by decide +kernel
theorem dX1_floatOf_24 : decode cX1_floatOf 24 = .ok (.dload_n 2, 1) := by decide +kernel
theorem dX1_floatOf_25 : decode cX1_floatOf 25 = .ok (.iload_n 1, 1) := by decide +kernel
theorem dX1_floatOf_26 : decode cX1_floatOf 26 = .ok (.sipush 150, 3) := by decide +kernel
theorem dX1_floatOf_29 : decode cX1_floatOf 29 = .ok (.isub, 1) := by decide +kernel
theorem dX1_floatOf_30 : decode cX1_floatOf 30 = .ok (.invokestatic 18, 3) := by decide +kernel
theorem dX1_floatOf_33 : decode cX1_floatOf 33 = .ok (.d2f, 1) := by decide +kernel
theorem dX1_floatOf_34 : decode cX1_floatOf 34 = .ok (.fstore 4, 2) := by decide +kernel
theorem dX1_floatOf_36 : decode cX1_floatOf 36 = .ok (.iload_n 0, 1) := by decide +kernel
theorem dX1_floatOf_37 : decode cX1_floatOf 37 = .ok (.ifCond .ge 9, 3) := by decide +kernel
theorem dX1_floatOf_40 : decode cX1_floatOf 40 = .ok (.fload 4, 2) := by decide +kernel
theorem dX1_floatOf_42 : decode cX1_floatOf 42 = .ok (.fneg, 1) := by decide +kernel
theorem dX1_floatOf_43 : decode cX1_floatOf 43 = .ok (.goto 5, 3) := by decide +kernel
theorem dX1_floatOf_46 : decode cX1_floatOf 46 = .ok (.fload 4, 2) := by decide +kernel
theorem dX1_floatOf_48 : decode cX1_floatOf 48 = .ok (.freturn, 1) := by decide +kernel
theorem dX1_isMinus_0 : decode cX1_isMinus 0 = .ok (.fload_n 0, 1) := by decide +kernel
theorem dX1_isMinus_1 : decode cX1_isMinus 1 = .ok (.fconst 0, 1) := by decide +kernel
theorem dX1_isMinus_2 : decode cX1_isMinus 2 = .ok (.fcmp .g, 1) := by decide +kernel
theorem dX1_isMinus_3 : decode cX1_isMinus 3 = .ok (.ifCond .lt 17, 3) := by decide +kernel
theorem dX1_isMinus_6 : decode cX1_isMinus 6 = .ok (.fload_n 0, 1) := by decide +kernel
theorem dX1_isMinus_7 : decode cX1_isMinus 7 = .ok (.fconst 0, 1) := by decide +kernel
theorem dX1_isMinus_8 : decode cX1_isMinus 8 = .ok (.fcmp .l, 1) := by decide +kernel
theorem dX1_isMinus_9 : decode cX1_isMinus 9 = .ok (.ifCond .ne 15, 3) := by decide +kernel
theorem dX1_isMinus_12 : decode cX1_isMinus 12 = .ok (.fconst 1, 1) := by decide +kernel
theorem dX1_isMinus_13 : decode cX1_isMinus 13 = .ok (.fload_n 0, 1) := by decide +kernel
theorem dX1_isMinus_14 : decode cX1_isMinus 14 = .ok (.fdiv, 1) := by decide +kernel
theorem dX1_isMinus_15 : decode cX1_isMinus 15 = .ok (.fconst 0, 1) := by decide +kernel
theorem dX1_isMinus_16 : decode cX1_isMinus 16 = .ok (.fcmp .g, 1) := by decide +kernel
theorem dX1_isMinus_17 : decode cX1_isMinus 17 = .ok (.ifCond .ge 7, 3) := by decide +kernel
theorem dX1_isMinus_20 : decode cX1_isMinus 20 = .ok (.iconst 1, 1) := by decide +kernel
theorem dX1_isMinus_21 : decode cX1_isMinus 21 = .ok (.goto 4, 3) := by decide +kernel
theorem dX1_isMinus_24 : decode cX1_isMinus 24 = .ok (.iconst 0, 1) := by decide +kernel
theorem dX1_isMinus_25 : decode cX1_isMinus 25 = .ok (.ireturn, 1) := by decide +kernel
theorem dX1_powerOf_0 : decode cX1_powerOf 0 = .ok (.iconst 0, 1) := by decide +kernel
theorem dX1_powerOf_1 : decode cX1_powerOf 1 = .ok (.istore_n 3, 1) := by decide +kernel
theorem dX1_powerOf_2 : decode cX1_powerOf 2 = .ok (.iconst 0, 1) := by decide +kernel
theorem dX1_powerOf_3 : decode cX1_powerOf 3 = .ok (.istore 4, 2) := by decide +kernel
theorem dX1_powerOf_5 : decode cX1_powerOf 5 = .ok (.iload 4, 2) := by decide +kernel
theorem dX1_powerOf_7 : decode cX1_powerOf 7 = .ok (.sipush 1100, 3) := by decide +kernel
theorem dX1_powerOf_10 : decode cX1_powerOf 10 = .ok (.if_icmp .ge 26, 3) := by decide +kernel
theorem dX1_powerOf_13 : decode cX1_powerOf 13 = .ok (.dload_n 0, 1) := by decide +kernel
theorem dX1_powerOf_14 : decode cX1_powerOf 14 = .ok (.ldc2_w 30, 3) := by decide +kernel
theorem dX1_powerOf_17 : decode cX1_powerOf 17 = .ok (.dcmp .l, 1) := by decide +kernel
theorem dX1_powerOf_18 : decode cX1_powerOf 18 = .ok (.ifCond .lt 18, 3) := by decide +kernel
theorem dX1_powerOf_21 : decode cX1_powerOf 21 = .ok (.dload_n 0, 1) := by decide +kernel
theorem dX1_powerOf_22 : decode cX1_powerOf 22 = .ok (.ldc2_w 30, 3) := by decide +kernel
theorem dX1_powerOf_25 : decode cX1_powerOf 25 = .ok (.ddiv, 1) := by decide +kernel
theorem dX1_powerOf_26 : decode cX1_powerOf 26 = .ok (.dstore_n 0, 1) := by decide +kernel
theorem dX1_powerOf_27 : decode cX1_powerOf 27 = .ok (.iinc 3 1, 3) := by decide +kernel
theorem dX1_powerOf_30 : decode cX1_powerOf 30 = .ok (.iinc 4 1, 3) := by decide +kernel
theorem dX1_powerOf_33 : decode cX1_powerOf 33 = .ok (.goto (-28), 3) := by decide +kernel
theorem dX1_powerOf_36 : decode cX1_powerOf 36 = .ok (.iconst 0, 1) := by decide +kernel
theorem dX1_powerOf_37 : decode cX1_powerOf 37 = .ok (.istore 4, 2) := by decide +kernel
theorem dX1_powerOf_39 : decode cX1_powerOf 39 = .ok (.iload 4, 2) := by decide +kernel
theorem dX1_powerOf_41 : decode cX1_powerOf 41 = .ok (.sipush 1100, 3) := by decide +kernel
theorem dX1_powerOf_44 : decode cX1_powerOf 44 = .ok (.if_icmp .ge 29, 3) := by decide +kernel
theorem dX1_powerOf_47 : decode cX1_powerOf 47 = .ok (.dload_n 0, 1) := by decide +kernel
theorem dX1_powerOf_48 : decode cX1_powerOf 48 = .ok (.dconst 1, 1) := by decide +kernel
theorem dX1_powerOf_49 : decode cX1_powerOf 49 = .ok (.dcmp .g, 1) := by decide +kernel
theorem dX1_powerOf_50 : decode cX1_powerOf 50 = .ok (.ifCond .ge 23, 3) := by decide +kernel
theorem dX1_powerOf_53 : decode cX1_powerOf 53 = .ok (.iload_n 3, 1) := by decide +kernel
theorem dX1_powerOf_54 : decode cX1_powerOf 54 = .ok (.iload_n 2, 1) := by decide +kernel
theorem dX1_powerOf_55 : decode cX1_powerOf 55 = .ok (.if_icmp .le 18, 3) := by decide +kernel
theorem dX1_powerOf_58 : decode cX1_powerOf 58 = .ok (.dload_n 0, 1) := by decide +kernel
theorem dX1_powerOf_59 : decode cX1_powerOf 59 = .ok (.ldc2_w 30, 3) := by decide +kernel
theorem dX1_powerOf_62 : decode cX1_powerOf 62 = .ok (.dmul, 1) := by decide +kernel
theorem dX1_powerOf_63 : decode cX1_powerOf 63 = .ok (.dstore_n 0, 1) := by decide +kernel
theorem dX1_powerOf_64 : decode cX1_powerOf 64 = .ok (.iinc 3 (-1), 3) := by decide +kernel
theorem dX1_powerOf_67 : decode cX1_powerOf 67 = .ok (.iinc 4 1, 3) := by decide +kernel
theorem dX1_powerOf_70 : decode cX1_powerOf 70 = .ok (.goto (-31), 3) := by decide +kernel
theorem dX1_powerOf_73 : decode cX1_powerOf 73 = .ok (.iload_n 3, 1) := by decide +kernel
theorem dX1_powerOf_74 : decode cX1_powerOf 74 = .ok (.ireturn, 1) := by decide +kernel
theorem dX1_scaled_0 : decode cX1_scaled 0 = .ok (.iconst 0, 1) := by decide +kernel
theorem dX1_scaled_1 : decode cX1_scaled 1 = .ok (.istore_n 3, 1) := by decide +kernel
theorem dX1_scaled_2 : decode cX1_scaled 2 = .ok (.iload_n 3, 1) := by decide +kernel
theorem dX1_scaled_3 : decode cX1_scaled 3 = .ok (.iload_n 2, 1) := by decide +kernel
theorem dX1_scaled_4 : decode cX1_scaled 4 = .ok (.if_icmp .ge 15, 3) := by decide +kernel
theorem dX1_scaled_7 : decode cX1_scaled 7 = .ok (.dload_n 0, 1) := by decide +kernel
theorem dX1_scaled_8 : decode cX1_scaled 8 = .ok (.ldc2_w 30, 3) := by decide +kernel
theorem dX1_scaled_11 : decode cX1_scaled 11 = .ok (.dmul, 1) := by decide +kernel
theorem dX1_scaled_12 : decode cX1_scaled 12 = .ok (.dstore_n 0, 1) := by decide +kernel
theorem dX1_scaled_13 : decode cX1_scaled 13 = .ok (.iinc 3 1, 3) := by decide +kernel
theorem dX1_scaled_16 : decode cX1_scaled 16 = .ok (.goto (-14), 3) := by decide +kernel
theorem dX1_scaled_19 : decode cX1_scaled 19 = .ok (.iconst 0, 1) := by decide +kernel
theorem dX1_scaled_20 : decode cX1_scaled 20 = .ok (.istore_n 3, 1) := by decide +kernel
theorem dX1_scaled_21 : decode cX1_scaled 21 = .ok (.iload_n 3, 1) := by decide +kernel
theorem dX1_scaled_22 : decode cX1_scaled 22 = .ok (.iload_n 2, 1) := by decide +kernel
theorem dX1_scaled_23 : decode cX1_scaled 23 = .ok (.if_icmp .le 15, 3) := by decide +kernel
theorem dX1_scaled_26 : decode cX1_scaled 26 = .ok (.dload_n 0, 1) := by decide +kernel
theorem dX1_scaled_27 : decode cX1_scaled 27 = .ok (.ldc2_w 30, 3) := by decide +kernel
theorem dX1_scaled_30 : decode cX1_scaled 30 = .ok (.ddiv, 1) := by decide +kernel
theorem dX1_scaled_31 : decode cX1_scaled 31 = .ok (.dstore_n 0, 1) := by decide +kernel
theorem dX1_scaled_32 : decode cX1_scaled 32 = .ok (.iinc 3 (-1), 3) := by decide +kernel
theorem dX1_scaled_35 : decode cX1_scaled 35 = .ok (.goto (-14), 3) := by decide +kernel
theorem dX1_scaled_38 : decode cX1_scaled 38 = .ok (.dload_n 0, 1) := by decide +kernel
theorem dX1_scaled_39 : decode cX1_scaled 39 = .ok (.dreturn, 1) := by decide +kernel
theorem dX2_init_0 : decode cX2_init 0 = .ok (.aload_n 0, 1) := by decide +kernel
theorem dX2_init_1 : decode cX2_init 1 = .ok (.invokespecial 3, 3) := by decide +kernel
theorem dX2_init_4 : decode cX2_init 4 = .ok (.aload_n 0, 1) := by decide +kernel
theorem dX2_init_5 : decode cX2_init 5 = .ok (.new 9, 3) := by decide +kernel
theorem dX2_init_8 : decode cX2_init 8 = .ok (.dup, 1) := by decide +kernel
theorem dX2_init_9 : decode cX2_init 9 = .ok (.invokespecial 11, 3) := by decide +kernel
theorem dX2_init_12 : decode cX2_init 12 = .ok (.putfield 12, 3) := by decide +kernel
theorem dX2_init_15 : decode cX2_init 15 = .ok (.aload_n 0, 1) := by decide +kernel
theorem dX2_init_16 : decode cX2_init 16 = .ok (.bipush 7, 2) := by decide +kernel
theorem dX2_init_18 : decode cX2_init 18 = .ok (.newarray .int, 2) := by decide +kernel
theorem dX2_init_20 : decode cX2_init 20 = .ok (.putfield 18, 3) := by decide +kernel
theorem dX2_init_23 : decode cX2_init 23 = .ok (.return_, 1) := by decide +kernel
theorem dX2_begin_0 : decode cX2_begin 0 = .ok (.aload_n 0, 1) := by decide +kernel
theorem dX2_begin_1 : decode cX2_begin 1 = .ok (.iload_n 1, 1) := by decide +kernel
theorem dX2_begin_2 : decode cX2_begin 2 = .ok (.putfield 22, 3) := by decide +kernel
theorem dX2_begin_5 : decode cX2_begin 5 = .ok (.aload_n 0, 1) := by decide +kernel
theorem dX2_begin_6 : decode cX2_begin 6 = .ok (.iload_n 2, 1) := by decide +kernel
theorem dX2_begin_7 : decode cX2_begin 7 = .ok (.putfield 26, 3) := by decide +kernel
theorem dX2_begin_10 : decode cX2_begin 10 = .ok (.aload_n 0, 1) := by decide +kernel
theorem dX2_begin_11 : decode cX2_begin 11 = .ok (.iconst 0, 1) := by decide +kernel
theorem dX2_begin_12 : decode cX2_begin 12 = .ok (.putfield 29, 3) := by decide +kernel
theorem dX2_begin_15 : decode cX2_begin 15 = .ok (.aload_n 0, 1) := by decide +kernel
theorem dX2_begin_16 : decode cX2_begin 16 = .ok (.getfield 12, 3) := by decide +kernel
theorem dX2_begin_19 : decode cX2_begin 19 = .ok (.invokevirtual 32, 3) := by decide +kernel
theorem dX2_begin_22 : decode cX2_begin 22 = .ok (.iconst 0, 1) := by decide +kernel
theorem dX2_begin_23 : decode cX2_begin 23 = .ok (.istore_n 3, 1) := by decide +kernel
theorem dX2_begin_24 : decode cX2_begin 24 = .ok (.iload_n 3, 1) := by decide +kernel
theorem dX2_begin_25 : decode cX2_begin 25 = .ok (.bipush 7, 2) := by decide +kernel
theorem dX2_begin_27 : decode cX2_begin 27 = .ok (.if_icmp .ge 16, 3) := by decide +kernel
theorem dX2_begin_30 : decode cX2_begin 30 = .ok (.aload_n 0, 1) := by decide +kernel
theorem dX2_begin_31 : decode cX2_begin 31 = .ok (.getfield 18, 3) := by decide +kernel
theorem dX2_begin_34 : decode cX2_begin 34 = .ok (.iload_n 3, 1) := by decide +kernel
theorem dX2_begin_35 : decode cX2_begin 35 = .ok (.iconst 0, 1) := by decide +kernel
theorem dX2_begin_36 : decode cX2_begin 36 = .ok (.iastore, 1) := by decide +kernel
theorem dX2_begin_37 : decode cX2_begin 37 = .ok (.iinc 3 1, 3) := by decide +kernel
theorem dX2_begin_40 : decode cX2_begin 40 = .ok (.goto (-16), 3) := by decide +kernel
theorem dX2_begin_43 : decode cX2_begin 43 = .ok (.return_, 1) := by decide +kernel
theorem dX2_rounds_0 : decode cX2_rounds 0 = .ok (.aload_n 0, 1) := by decide +kernel
theorem dX2_rounds_1 : decode cX2_rounds 1 = .ok (.getfield 26, 3) := by decide +kernel
theorem dX2_rounds_4 : decode cX2_rounds 4 = .ok (.iconst 1, 1) := by decide +kernel
theorem dX2_rounds_5 : decode cX2_rounds 5 = .ok (.iadd, 1) := by decide +kernel
theorem dX2_rounds_6 : decode cX2_rounds 6 = .ok (.ireturn, 1) := by decide +kernel
theorem dX2_holds_0 : decode cX2_holds 0 = .ok (.iload_n 1, 1) := by decide +kernel
theorem dX2_holds_1 : decode cX2_holds 1 = .ok (.ifCond .lt 15, 3) := by decide +kernel
theorem dX2_holds_4 : decode cX2_holds 4 = .ok (.iload_n 1, 1) := by decide +kernel
theorem dX2_holds_5 : decode cX2_holds 5 = .ok (.aload_n 0, 1) := by decide +kernel
theorem dX2_holds_6 : decode cX2_holds 6 = .ok (.getfield 22, 3) := by decide +kernel
theorem dX2_holds_9 : decode cX2_holds 9 = .ok (.if_icmp .ge 7, 3) := by decide +kernel
theorem dX2_holds_12 : decode cX2_holds 12 = .ok (.iconst 1, 1) := by decide +kernel
theorem dX2_holds_13 : decode cX2_holds 13 = .ok (.goto 4, 3) := by decide +kernel
theorem dX2_holds_16 : decode cX2_holds 16 = .ok (.iconst 0, 1) := by decide +kernel
theorem dX2_holds_17 : decode cX2_holds 17 = .ok (.ireturn, 1) := by decide +kernel
theorem dX3_init_0 : decode cX3_init 0 = .ok (.aload_n 0, 1) := by decide +kernel
theorem dX3_init_1 : decode cX3_init 1 = .ok (.invokespecial 3, 3) := by decide +kernel
theorem dX3_init_4 : decode cX3_init 4 = .ok (.aload_n 0, 1) := by decide +kernel
theorem dX3_init_5 : decode cX3_init 5 = .ok (.bipush 7, 2) := by decide +kernel
theorem dX3_init_7 : decode cX3_init 7 = .ok (.newarray .int, 2) := by decide +kernel
theorem dX3_init_9 : decode cX3_init 9 = .ok (.putfield 9, 3) := by decide +kernel
theorem dX3_init_12 : decode cX3_init 12 = .ok (.aload_n 0, 1) := by decide +kernel
theorem dX3_init_13 : decode cX3_init 13 = .ok (.bipush 7, 2) := by decide +kernel
theorem dX3_init_15 : decode cX3_init 15 = .ok (.newarray .int, 2) := by decide +kernel
theorem dX3_init_17 : decode cX3_init 17 = .ok (.putfield 15, 3) := by decide +kernel
theorem dX3_init_20 : decode cX3_init 20 = .ok (.aload_n 0, 1) := by decide +kernel
theorem dX3_init_21 : decode cX3_init 21 = .ok (.bipush 7, 2) := by decide +kernel
theorem dX3_init_23 : decode cX3_init 23 = .ok (.newarray .int, 2) := by decide +kernel
theorem dX3_init_25 : decode cX3_init 25 = .ok (.putfield 18, 3) := by decide +kernel
theorem dX3_init_28 : decode cX3_init 28 = .ok (.aload_n 0, 1) := by decide +kernel
theorem dX3_init_29 : decode cX3_init 29 = .ok (.bipush 7, 2) := by decide +kernel
theorem dX3_init_31 : decode cX3_init 31 = .ok (.newarray .int, 2) := by decide +kernel
theorem dX3_init_33 : decode cX3_init 33 = .ok (.putfield 21, 3) := by decide +kernel
theorem dX3_init_36 : decode cX3_init 36 = .ok (.aload_n 0, 1) := by decide +kernel
theorem dX3_init_37 : decode cX3_init 37 = .ok (.iconst 4, 1) := by decide +kernel
theorem dX3_init_38 : decode cX3_init 38 = .ok (.newarray .int, 2) := by decide +kernel
theorem dX3_init_40 : decode cX3_init 40 = .ok (.putfield 24, 3) := by decide +kernel
theorem dX3_init_43 : decode cX3_init 43 = .ok (.return_, 1) := by decide +kernel
theorem dX3_play_0 : decode cX3_play 0 = .ok (.aload_n 0, 1) := by decide +kernel
theorem dX3_play_1 : decode cX3_play 1 = .ok (.iconst 0, 1) := by decide +kernel
theorem dX3_play_2 : decode cX3_play 2 = .ok (.putfield 27, 3) := by decide +kernel
theorem dX3_play_5 : decode cX3_play 5 = .ok (.aload_n 0, 1) := by decide +kernel
theorem dX3_play_6 : decode cX3_play 6 = .ok (.iconst 0, 1) := by decide +kernel
theorem dX3_play_7 : decode cX3_play 7 = .ok (.putfield 31, 3) := by decide +kernel
theorem dX3_play_10 : decode cX3_play 10 = .ok (.iconst 0, 1) := by decide +kernel
theorem dX3_play_11 : decode cX3_play 11 = .ok (.istore_n 3, 1) := by decide +kernel
theorem dX3_play_12 : decode cX3_play 12 = .ok (.iload_n 3, 1) := by decide +kernel
theorem dX3_play_13 : decode cX3_play 13 = .ok (.bipush 7, 2) := by decide +kernel
theorem dX3_play_15 : decode cX3_play 15 = .ok (.if_icmp .ge 21, 3) := by decide +kernel
theorem dX3_play_18 : decode cX3_play 18 = .ok (.aload_n 0, 1) := by decide +kernel
theorem dX3_play_19 : decode cX3_play 19 = .ok (.getfield 9, 3) := by decide +kernel
theorem dX3_play_22 : decode cX3_play 22 = .ok (.iload_n 3, 1) := by decide +kernel
theorem dX3_play_23 : decode cX3_play 23 = .ok (.aload_n 1, 1) := by decide +kernel
theorem dX3_play_24 : decode cX3_play 24 = .ok (.getfield 34, 3) := by decide +kernel
theorem dX3_play_27 : decode cX3_play 27 = .ok (.iload_n 3, 1) := by decide +kernel
theorem dX3_play_28 : decode cX3_play 28 = .ok (.iaload, 1) := by decide +kernel
theorem dX3_play_29 : decode cX3_play 29 = .ok (.iastore, 1) := by decide +kernel
theorem dX3_play_30 : decode cX3_play 30 = .ok (.iinc 3 1, 3) := by decide +kernel
theorem dX3_play_33 : decode cX3_play 33 = .ok (.goto (-21), 3) := by decide +kernel
theorem dX3_play_36 : decode cX3_play 36 = .ok (.aload_n 0, 1) := by decide +kernel
theorem dX3_play_37 : decode cX3_play 37 = .ok (.getfield 24, 3) := by decide +kernel
theorem dX3_play_40 : decode cX3_play 40 = .ok (.iconst 0, 1) := by decide +kernel
theorem dX3_play_41 : decode cX3_play 41 = .ok (.aload_n 0, 1) := by decide +kernel
theorem dX3_play_42 : decode cX3_play 42 = .ok (.getfield 9, 3) := by decide +kernel
theorem dX3_play_45 : decode cX3_play 45 = .ok (.aload_n 1, 1) := by decide +kernel
theorem dX3_play_46 : decode cX3_play 46 = .ok (.getfield 39, 3) := by decide +kernel
theorem dX3_play_49 : decode cX3_play 49 = .ok (.aload_n 1, 1) := by decide +kernel
theorem dX3_play_50 : decode cX3_play 50 = .ok (.getfield 42, 3) := by decide +kernel
theorem dX3_play_53 : decode cX3_play 53 = .ok (.getfield 46, 3) := by decide +kernel
theorem dX3_play_56 : decode cX3_play 56 = .ok (.invokestatic 51, 3) := by decide +kernel
theorem dX3_play_59 : decode cX3_play 59 = .ok (.iastore, 1) := by decide +kernel
theorem dX3_play_60 : decode cX3_play 60 = .ok (.iconst 0, 1) := by decide +kernel
theorem dX3_play_61 : decode cX3_play 61 = .ok (.istore_n 3, 1) := by decide +kernel
theorem dX3_play_62 : decode cX3_play 62 = .ok (.iload_n 3, 1) := by decide +kernel
theorem dX3_play_63 : decode cX3_play 63 = .ok (.iload_n 2, 1) := by decide +kernel
theorem dX3_play_64 : decode cX3_play 64 = .ok (.if_icmp .ge 51, 3) := by decide +kernel
theorem dX3_play_67 : decode cX3_play 67 = .ok (.iload_n 3, 1) := by decide +kernel
theorem dX3_play_68 : decode cX3_play 68 = .ok (.iconst 3, 1) := by decide +kernel
theorem dX3_play_69 : decode cX3_play 69 = .ok (.if_icmp .ge 46, 3) := by decide +kernel
theorem dX3_play_72 : decode cX3_play 72 = .ok (.aload_n 0, 1) := by decide +kernel
theorem dX3_play_73 : decode cX3_play 73 = .ok (.aload_n 1, 1) := by decide +kernel
theorem dX3_play_74 : decode cX3_play 74 = .ok (.invokevirtual 56, 3) := by decide +kernel
theorem dX3_play_77 : decode cX3_play 77 = .ok (.aload_n 0, 1) := by decide +kernel
theorem dX3_play_78 : decode cX3_play 78 = .ok (.aload_n 1, 1) := by decide +kernel
theorem dX3_play_79 : decode cX3_play 79 = .ok (.iload_n 3, 1) := by decide +kernel
theorem dX3_play_80 : decode cX3_play 80 = .ok (.invokevirtual 60, 3) := by decide +kernel
theorem dX3_play_83 : decode cX3_play 83 = .ok (.aload_n 0, 1) := by decide +kernel
theorem dX3_play_84 : decode cX3_play 84 = .ok (.getfield 24, 3) := by decide +kernel
theorem dX3_play_87 : decode cX3_play 87 = .ok (.iload_n 3, 1) := by decide +kernel
theorem dX3_play_88 : decode cX3_play 88 = .ok (.iconst 1, 1) := by decide +kernel
theorem dX3_play_89 : decode cX3_play 89 = .ok (.iadd, 1) := by decide +kernel
theorem dX3_play_90 : decode cX3_play 90 = .ok (.aload_n 0, 1) := by decide +kernel
theorem dX3_play_91 : decode cX3_play 91 = .ok (.getfield 9, 3) := by decide +kernel
theorem dX3_play_94 : decode cX3_play 94 = .ok (.aload_n 1, 1) := by decide +kernel
theorem dX3_play_95 : decode cX3_play 95 = .ok (.getfield 39, 3) := by decide +kernel
theorem dX3_play_98 : decode cX3_play 98 = .ok (.aload_n 1, 1) := by decide +kernel
theorem dX3_play_99 : decode cX3_play 99 = .ok (.getfield 42, 3) := by decide +kernel
theorem dX3_play_102 : decode cX3_play 102 = .ok (.getfield 46, 3) := by decide +kernel
theorem dX3_play_105 : decode cX3_play 105 = .ok (.invokestatic 51, 3) := by decide +kernel
theorem dX3_play_108 : decode cX3_play 108 = .ok (.iastore, 1) := by decide +kernel
theorem dX3_play_109 : decode cX3_play 109 = .ok (.iinc 3 1, 3) := by decide +kernel
theorem dX3_play_112 : decode cX3_play 112 = .ok (.goto (-50), 3) := by decide +kernel
theorem dX3_play_115 : decode cX3_play 115 = .ok (.return_, 1) := by decide +kernel
theorem dX3_unlikeBehind_0 : decode cX3_unlikeBehind 0 = .ok (.aload_n 0, 1) := by decide +kernel
theorem dX3_unlikeBehind_1 : decode cX3_unlikeBehind 1 = .ok (.getfield 24, 3) := by decide +kernel
theorem dX3_unlikeBehind_4 : decode cX3_unlikeBehind 4 = .ok (.iload_n 1, 1) := by decide +kernel
theorem dX3_unlikeBehind_5 : decode cX3_unlikeBehind 5 = .ok (.iaload, 1) := by decide +kernel
theorem dX3_unlikeBehind_6 : decode cX3_unlikeBehind 6 = .ok (.ireturn, 1) := by decide +kernel
theorem dX3_firstAlike_0 : decode cX3_firstAlike 0 = .ok (.iconst (-1), 1) := by decide +kernel
theorem dX3_firstAlike_1 : decode cX3_firstAlike 1 = .ok (.istore_n 2, 1) := by decide +kernel
theorem dX3_firstAlike_2 : decode cX3_firstAlike 2 = .ok (.iload_n 1, 1) := by decide +kernel
theorem dX3_firstAlike_3 : decode cX3_firstAlike 3 = .ok (.istore_n 3, 1) := by decide +kernel
theorem dX3_firstAlike_4 : decode cX3_firstAlike 4 = .ok (.iload_n 3, 1) := by decide +kernel
theorem dX3_firstAlike_5 : decode cX3_firstAlike 5 = .ok (.ifCond .lt 21, 3) := by decide +kernel
theorem dX3_firstAlike_8 : decode cX3_firstAlike 8 = .ok (.aload_n 0, 1) := by decide +kernel
theorem dX3_firstAlike_9 : decode cX3_firstAlike 9 = .ok (.getfield 24, 3) := by decide +kernel
theorem dX3_firstAlike_12 : decode cX3_firstAlike 12 = .ok (.iload_n 3, 1) := by decide +kernel
theorem dX3_firstAlike_13 : decode cX3_firstAlike 13 = .ok (.iaload, 1) := by decide +kernel
theorem dX3_firstAlike_14 : decode cX3_firstAlike 14 = .ok (.iconst 1, 1) := by decide +kernel
theorem dX3_firstAlike_15 : decode cX3_firstAlike 15 = .ok (.if_icmp .gt 11, 3) := by decide +kernel
theorem dX3_firstAlike_18 : decode cX3_firstAlike 18 = .ok (.iload_n 3, 1) := by decide +kernel
theorem dX3_firstAlike_19 : decode cX3_firstAlike 19 = .ok (.istore_n 2, 1) := by decide +kernel
theorem dX3_firstAlike_20 : decode cX3_firstAlike 20 = .ok (.iinc 3 (-1), 3) := by decide +kernel
theorem dX3_firstAlike_23 : decode cX3_firstAlike 23 = .ok (.goto (-19), 3) := by decide +kernel
theorem dX3_firstAlike_26 : decode cX3_firstAlike 26 = .ok (.iload_n 2, 1) := by decide +kernel
theorem dX3_firstAlike_27 : decode cX3_firstAlike 27 = .ok (.ireturn, 1) := by decide +kernel
theorem dX3_countAll_0 : decode cX3_countAll 0 = .ok (.iconst 0, 1) := by decide +kernel
theorem dX3_countAll_1 : decode cX3_countAll 1 = .ok (.istore_n 2, 1) := by decide +kernel
theorem dX3_countAll_2 : decode cX3_countAll 2 = .ok (.iload_n 2, 1) := by decide +kernel
theorem dX3_countAll_3 : decode cX3_countAll 3 = .ok (.aload_n 1, 1) := by decide +kernel
theorem dX3_countAll_4 : decode cX3_countAll 4 = .ok (.getfield 39, 3) := by decide +kernel
theorem dX3_countAll_7 : decode cX3_countAll 7 = .ok (.if_icmp .ge 107, 3) := by decide +kernel
theorem dX3_countAll_10 : decode cX3_countAll 10 = .ok (.iconst 0, 1) := by decide +kernel
theorem dX3_countAll_11 : decode cX3_countAll 11 = .ok (.istore_n 3, 1) := by decide +kernel
theorem dX3_countAll_12 : decode cX3_countAll 12 = .ok (.iload_n 3, 1) := by decide +kernel
theorem dX3_countAll_13 : decode cX3_countAll 13 = .ok (.aload_n 1, 1) := by decide +kernel
theorem dX3_countAll_14 : decode cX3_countAll 14 = .ok (.getfield 39, 3) := by decide +kernel
theorem dX3_countAll_17 : decode cX3_countAll 17 = .ok (.if_icmp .ge 43, 3) := by decide +kernel
theorem dX3_countAll_20 : decode cX3_countAll 20 = .ok (.aload_n 0, 1) := by decide +kernel
theorem dX3_countAll_21 : decode cX3_countAll 21 = .ok (.getfield 15, 3) := by decide +kernel
theorem dX3_countAll_24 : decode cX3_countAll 24 = .ok (.iload_n 3, 1) := by decide +kernel
theorem dX3_countAll_25 : decode cX3_countAll 25 = .ok (.iload_n 3, 1) := by decide +kernel
theorem dX3_countAll_26 : decode cX3_countAll 26 = .ok (.iload_n 2, 1) := by decide +kernel
theorem dX3_countAll_27 : decode cX3_countAll 27 = .ok (.if_icmp .ne 12, 3) := by decide +kernel
theorem dX3_countAll_30 : decode cX3_countAll 30 = .ok (.aload_n 0, 1) := by decide +kernel
theorem dX3_countAll_31 : decode cX3_countAll 31 = .ok (.getfield 9, 3) := by decide +kernel
theorem dX3_countAll_34 : decode cX3_countAll 34 = .ok (.iload_n 3, 1) := by decide +kernel
theorem dX3_countAll_35 : decode cX3_countAll 35 = .ok (.iaload, 1) := by decide +kernel
theorem dX3_countAll_36 : decode cX3_countAll 36 = .ok (.goto 17, 3) := by decide +kernel
theorem dX3_countAll_39 : decode cX3_countAll 39 = .ok (.aload_n 0, 1) := by decide +kernel
theorem dX3_countAll_40 : decode cX3_countAll 40 = .ok (.aload_n 1, 1) := by decide +kernel
theorem dX3_countAll_41 : decode cX3_countAll 41 = .ok (.iconst 1, 1) := by decide +kernel
theorem dX3_countAll_42 : decode cX3_countAll 42 = .ok (.iload_n 3, 1) := by decide +kernel
theorem dX3_countAll_43 : decode cX3_countAll 43 = .ok (.iload_n 2, 1) := by decide +kernel
theorem dX3_countAll_44 : decode cX3_countAll 44 = .ok (.aload_n 0, 1) := by decide +kernel
theorem dX3_countAll_45 : decode cX3_countAll 45 = .ok (.getfield 9, 3) := by decide +kernel
theorem dX3_countAll_48 : decode cX3_countAll 48 = .ok (.iload_n 3, 1) := by decide +kernel
theorem dX3_countAll_49 : decode cX3_countAll 49 = .ok (.iaload, 1) := by decide +kernel
theorem dX3_countAll_50 : decode cX3_countAll 50 = .ok (.invokevirtual 64, 3) := by decide +kernel
theorem dX3_countAll_53 : decode cX3_countAll 53 = .ok (.iastore, 1) := by decide +kernel
theorem dX3_countAll_54 : decode cX3_countAll 54 = .ok (.iinc 3 1, 3) := by decide +kernel
theorem dX3_countAll_57 : decode cX3_countAll 57 = .ok (.goto (-45), 3) := by decide +kernel
theorem dX3_countAll_60 : decode cX3_countAll 60 = .ok (.aload_n 0, 1) := by decide +kernel
theorem dX3_countAll_61 : decode cX3_countAll 61 = .ok (.getfield 15, 3) := by decide +kernel
theorem dX3_countAll_64 : decode cX3_countAll 64 = .ok (.aload_n 1, 1) := by decide +kernel
theorem dX3_countAll_65 : decode cX3_countAll 65 = .ok (.getfield 39, 3) := by decide +kernel
theorem dX3_countAll_68 : decode cX3_countAll 68 = .ok (.invokestatic 68, 3) := by decide +kernel
theorem dX3_countAll_71 : decode cX3_countAll 71 = .ok (.istore_n 3, 1) := by decide +kernel
theorem dX3_countAll_72 : decode cX3_countAll 72 = .ok (.aload_n 0, 1) := by decide +kernel
theorem dX3_countAll_73 : decode cX3_countAll 73 = .ok (.getfield 18, 3) := by decide +kernel
theorem dX3_countAll_76 : decode cX3_countAll 76 = .ok (.iload_n 2, 1) := by decide +kernel
theorem dX3_countAll_77 : decode cX3_countAll 77 = .ok (.aload_n 0, 1) := by decide +kernel
theorem dX3_countAll_78 : decode cX3_countAll 78 = .ok (.getfield 15, 3) := by decide +kernel
theorem dX3_countAll_81 : decode cX3_countAll 81 = .ok (.iload_n 3, 1) := by decide +kernel
theorem dX3_countAll_82 : decode cX3_countAll 82 = .ok (.iaload, 1) := by decide +kernel
theorem dX3_countAll_83 : decode cX3_countAll 83 = .ok (.iastore, 1) := by decide +kernel
theorem dX3_countAll_84 : decode cX3_countAll 84 = .ok (.aload_n 0, 1) := by decide +kernel
theorem dX3_countAll_85 : decode cX3_countAll 85 = .ok (.getfield 21, 3) := by decide +kernel
theorem dX3_countAll_88 : decode cX3_countAll 88 = .ok (.iload_n 2, 1) := by decide +kernel
theorem dX3_countAll_89 : decode cX3_countAll 89 = .ok (.aload_n 0, 1) := by decide +kernel
theorem dX3_countAll_90 : decode cX3_countAll 90 = .ok (.getfield 15, 3) := by decide +kernel
theorem dX3_countAll_93 : decode cX3_countAll 93 = .ok (.iconst 0, 1) := by decide +kernel
theorem dX3_countAll_94 : decode cX3_countAll 94 = .ok (.aload_n 1, 1) := by decide +kernel
theorem dX3_countAll_95 : decode cX3_countAll 95 = .ok (.getfield 39, 3) := by decide +kernel
theorem dX3_countAll_98 : decode cX3_countAll 98 = .ok (.aload_n 0, 1) := by decide +kernel
theorem dX3_countAll_99 : decode cX3_countAll 99 = .ok (.getfield 15, 3) := by decide +kernel
theorem dX3_countAll_102 : decode cX3_countAll 102 = .ok (.iload_n 3, 1) := by decide +kernel
theorem dX3_countAll_103 : decode cX3_countAll 103 = .ok (.iaload, 1) := by decide +kernel
theorem dX3_countAll_104 : decode cX3_countAll 104 = .ok (.invokestatic 72, 3) := by decide +kernel
theorem dX3_countAll_107 : decode cX3_countAll 107 = .ok (.iastore, 1) := by decide +kernel
theorem dX3_countAll_108 : decode cX3_countAll 108 = .ok (.iinc 2 1, 3) := by decide +kernel
theorem dX3_countAll_111 : decode cX3_countAll 111 = .ok (.goto (-109), 3) := by decide +kernel
theorem dX3_countAll_114 : decode cX3_countAll 114 = .ok (.return_, 1) := by decide +kernel
theorem dX3_followKing_0 : decode cX3_followKing 0 = .ok (.iconst 0, 1) := by decide +kernel
theorem dX3_followKing_1 : decode cX3_followKing 1 = .ok (.istore_n 3, 1) := by decide +kernel
theorem dX3_followKing_2 : decode cX3_followKing 2 = .ok (.iload_n 3, 1) := by decide +kernel
theorem dX3_followKing_3 : decode cX3_followKing 3 = .ok (.aload_n 1, 1) := by decide +kernel
theorem dX3_followKing_4 : decode cX3_followKing 4 = .ok (.getfield 39, 3) := by decide +kernel
theorem dX3_followKing_7 : decode cX3_followKing 7 = .ok (.if_icmp .ge 88, 3) := by decide +kernel
theorem dX3_followKing_10 : decode cX3_followKing 10 = .ok (.iload_n 3, 1) := by decide +kernel
theorem dX3_followKing_11 : decode cX3_followKing 11 = .ok (.iload_n 2, 1) := by decide +kernel
theorem dX3_followKing_12 : decode cX3_followKing 12 = .ok (.if_icmp .ne 12, 3) := by decide +kernel
theorem dX3_followKing_15 : decode cX3_followKing 15 = .ok (.aload_n 0, 1) := by decide +kernel
theorem dX3_followKing_16 : decode cX3_followKing 16 = .ok (.getfield 18, 3) := by decide +kernel
theorem dX3_followKing_19 : decode cX3_followKing 19 = .ok (.iload_n 2, 1) := by decide +kernel
theorem dX3_followKing_20 : decode cX3_followKing 20 = .ok (.iaload, 1) := by decide +kernel
theorem dX3_followKing_21 : decode cX3_followKing 21 = .ok (.goto 17, 3) := by decide +kernel
theorem dX3_followKing_24 : decode cX3_followKing 24 = .ok (.aload_n 0, 1) := by decide +kernel
theorem dX3_followKing_25 : decode cX3_followKing 25 = .ok (.aload_n 1, 1) := by decide +kernel
theorem dX3_followKing_26 : decode cX3_followKing 26 = .ok (.iconst 2, 1) := by decide +kernel
theorem dX3_followKing_27 : decode cX3_followKing 27 = .ok (.iload_n 2, 1) := by decide +kernel
theorem dX3_followKing_28 : decode cX3_followKing 28 = .ok (.iload_n 3, 1) := by decide +kernel
theorem dX3_followKing_29 : decode cX3_followKing 29 = .ok (.aload_n 0, 1) := by decide +kernel
theorem dX3_followKing_30 : decode cX3_followKing 30 = .ok (.getfield 18, 3) := by decide +kernel
theorem dX3_followKing_33 : decode cX3_followKing 33 = .ok (.iload_n 2, 1) := by decide +kernel
theorem dX3_followKing_34 : decode cX3_followKing 34 = .ok (.iaload, 1) := by decide +kernel
theorem dX3_followKing_35 : decode cX3_followKing 35 = .ok (.invokevirtual 64, 3) := by decide +kernel
theorem dX3_followKing_38 : decode cX3_followKing 38 = .ok (.istore 4, 2) := by decide +kernel
theorem dX3_followKing_40 : decode cX3_followKing 40 = .ok (.aload_n 0, 1) := by decide +kernel
theorem dX3_followKing_41 : decode cX3_followKing 41 = .ok (.getfield 21, 3) := by decide +kernel
theorem dX3_followKing_44 : decode cX3_followKing 44 = .ok (.iload_n 3, 1) := by decide +kernel
theorem dX3_followKing_45 : decode cX3_followKing 45 = .ok (.iaload, 1) := by decide +kernel
theorem dX3_followKing_46 : decode cX3_followKing 46 = .ok (.aload_n 1, 1) := by decide +kernel
theorem dX3_followKing_47 : decode cX3_followKing 47 = .ok (.getfield 39, 3) := by decide +kernel
theorem dX3_followKing_50 : decode cX3_followKing 50 = .ok (.iconst 2, 1) := by decide +kernel
theorem dX3_followKing_51 : decode cX3_followKing 51 = .ok (.idiv, 1) := by decide +kernel
theorem dX3_followKing_52 : decode cX3_followKing 52 = .ok (.aload_n 1, 1) := by decide +kernel
theorem dX3_followKing_53 : decode cX3_followKing 53 = .ok (.getfield 76, 3) := by decide +kernel
theorem dX3_followKing_56 : decode cX3_followKing 56 = .ok (.iadd, 1) := by decide +kernel
theorem dX3_followKing_57 : decode cX3_followKing 57 = .ok (.if_icmp .le 7, 3) := by decide +kernel
theorem dX3_followKing_60 : decode cX3_followKing 60 = .ok (.iconst 1, 1) := by decide +kernel
theorem dX3_followKing_61 : decode cX3_followKing 61 = .ok (.goto 4, 3) := by decide +kernel
theorem dX3_followKing_64 : decode cX3_followKing 64 = .ok (.iconst 0, 1) := by decide +kernel
theorem dX3_followKing_65 : decode cX3_followKing 65 = .ok (.istore 5, 2) := by decide +kernel
theorem dX3_followKing_67 : decode cX3_followKing 67 = .ok (.aload_n 0, 1) := by decide +kernel
theorem dX3_followKing_68 : decode cX3_followKing 68 = .ok (.getfield 9, 3) := by decide +kernel
theorem dX3_followKing_71 : decode cX3_followKing 71 = .ok (.iload_n 3, 1) := by decide +kernel
theorem dX3_followKing_72 : decode cX3_followKing 72 = .ok (.iload 5, 2) := by decide +kernel
theorem dX3_followKing_74 : decode cX3_followKing 74 = .ok (.ifCond .eq 12, 3) := by decide +kernel
theorem dX3_followKing_77 : decode cX3_followKing 77 = .ok (.aload_n 0, 1) := by decide +kernel
theorem dX3_followKing_78 : decode cX3_followKing 78 = .ok (.getfield 18, 3) := by decide +kernel
theorem dX3_followKing_81 : decode cX3_followKing 81 = .ok (.iload_n 3, 1) := by decide +kernel
theorem dX3_followKing_82 : decode cX3_followKing 82 = .ok (.iaload, 1) := by decide +kernel
theorem dX3_followKing_83 : decode cX3_followKing 83 = .ok (.goto 5, 3) := by decide +kernel
theorem dX3_followKing_86 : decode cX3_followKing 86 = .ok (.iload 4, 2) := by decide +kernel
theorem dX3_followKing_88 : decode cX3_followKing 88 = .ok (.iastore, 1) := by decide +kernel
theorem dX3_followKing_89 : decode cX3_followKing 89 = .ok (.iinc 3 1, 3) := by decide +kernel
theorem dX3_followKing_92 : decode cX3_followKing 92 = .ok (.goto (-90), 3) := by decide +kernel
theorem dX3_followKing_95 : decode cX3_followKing 95 = .ok (.return_, 1) := by decide +kernel
theorem dX3_spoken_0 : decode cX3_spoken 0 = .ok (.aload_n 1, 1) := by decide +kernel
theorem dX3_spoken_1 : decode cX3_spoken 1 = .ok (.getfield 42, 3) := by decide +kernel
theorem dX3_spoken_4 : decode cX3_spoken 4 = .ok (.iload_n 3, 1) := by decide +kernel
theorem dX3_spoken_5 : decode cX3_spoken 5 = .ok (.iload_n 2, 1) := by decide +kernel
theorem dX3_spoken_6 : decode cX3_spoken 6 = .ok (.iload 4, 2) := by decide +kernel
theorem dX3_spoken_8 : decode cX3_spoken 8 = .ok (.iload_n 3, 1) := by decide +kernel
theorem dX3_spoken_9 : decode cX3_spoken 9 = .ok (.iload 5, 2) := by decide +kernel
theorem dX3_spoken_11 : decode cX3_spoken 11 = .ok (.invokevirtual 79, 3) := by decide +kernel
theorem dX3_spoken_14 : decode cX3_spoken 14 = .ok (.lstore 6, 2) := by decide +kernel
theorem dX3_spoken_16 : decode cX3_spoken 16 = .ok (.aload_n 0, 1) := by decide +kernel
theorem dX3_spoken_17 : decode cX3_spoken 17 = .ok (.dup, 1) := by decide +kernel
theorem dX3_spoken_18 : decode cX3_spoken 18 = .ok (.getfield 27, 3) := by decide +kernel
theorem dX3_spoken_21 : decode cX3_spoken 21 = .ok (.lload 6, 2) := by decide +kernel
theorem dX3_spoken_23 : decode cX3_spoken 23 = .ok (.ldc2_w 83, 3) := by decide +kernel
theorem dX3_spoken_26 : decode cX3_spoken 26 = .ok (.lcmp, 1) := by decide +kernel
theorem dX3_spoken_27 : decode cX3_spoken 27 = .ok (.ifCond .ne 7, 3) := by decide +kernel
theorem dX3_spoken_30 : decode cX3_spoken 30 = .ok (.iconst 0, 1) := by decide +kernel
theorem dX3_spoken_31 : decode cX3_spoken 31 = .ok (.goto 4, 3) := by decide +kernel
theorem dX3_spoken_34 : decode cX3_spoken 34 = .ok (.iconst 1, 1) := by decide +kernel
theorem dX3_spoken_35 : decode cX3_spoken 35 = .ok (.iadd, 1) := by decide +kernel
theorem dX3_spoken_36 : decode cX3_spoken 36 = .ok (.putfield 27, 3) := by decide +kernel
theorem dX3_spoken_39 : decode cX3_spoken 39 = .ok (.aload_n 0, 1) := by decide +kernel
theorem dX3_spoken_40 : decode cX3_spoken 40 = .ok (.dup, 1) := by decide +kernel
theorem dX3_spoken_41 : decode cX3_spoken 41 = .ok (.getfield 31, 3) := by decide +kernel
theorem dX3_spoken_44 : decode cX3_spoken 44 = .ok (.lload 6, 2) := by decide +kernel
theorem dX3_spoken_46 : decode cX3_spoken 46 = .ok (.ldc2_w 85, 3) := by decide +kernel
theorem dX3_spoken_49 : decode cX3_spoken 49 = .ok (.lcmp, 1) := by decide +kernel
theorem dX3_spoken_50 : decode cX3_spoken 50 = .ok (.ifCond .ne 7, 3) := by decide +kernel
theorem dX3_spoken_53 : decode cX3_spoken 53 = .ok (.iconst 1, 1) := by decide +kernel
theorem dX3_spoken_54 : decode cX3_spoken 54 = .ok (.goto 4, 3) := by decide +kernel
theorem dX3_spoken_57 : decode cX3_spoken 57 = .ok (.iconst 0, 1) := by decide +kernel
theorem dX3_spoken_58 : decode cX3_spoken 58 = .ok (.iadd, 1) := by decide +kernel
theorem dX3_spoken_59 : decode cX3_spoken 59 = .ok (.putfield 31, 3) := by decide +kernel
theorem dX3_spoken_62 : decode cX3_spoken 62 = .ok (.lload 6, 2) := by decide +kernel
theorem dX3_spoken_64 : decode cX3_spoken 64 = .ok (.lconst 0, 1) := by decide +kernel
theorem dX3_spoken_65 : decode cX3_spoken 65 = .ok (.lcmp, 1) := by decide +kernel
theorem dX3_spoken_66 : decode cX3_spoken 66 = .ok (.ifCond .ge 10, 3) := by decide +kernel
theorem dX3_spoken_69 : decode cX3_spoken 69 = .ok (.aload_n 1, 1) := by decide +kernel
theorem dX3_spoken_70 : decode cX3_spoken 70 = .ok (.getfield 87, 3) := by decide +kernel
theorem dX3_spoken_73 : decode cX3_spoken 73 = .ok (.goto 6, 3) := by decide +kernel
theorem dX3_spoken_76 : decode cX3_spoken 76 = .ok (.lload 6, 2) := by decide +kernel
theorem dX3_spoken_78 : decode cX3_spoken 78 = .ok (.l2i, 1) := by decide +kernel
theorem dX3_spoken_79 : decode cX3_spoken 79 = .ok (.ireturn, 1) := by decide +kernel
theorem dX4_init_0 : decode cX4_init 0 = .ok (.aload_n 0, 1) := by decide +kernel
theorem dX4_init_1 : decode cX4_init 1 = .ok (.invokespecial 3, 3) := by decide +kernel
theorem dX4_init_4 : decode cX4_init 4 = .ok (.aload_n 0, 1) := by decide +kernel
theorem dX4_init_5 : decode cX4_init 5 = .ok (.bipush 7, 2) := by decide +kernel
theorem dX4_init_7 : decode cX4_init 7 = .ok (.newarray .int, 2) := by decide +kernel
theorem dX4_init_9 : decode cX4_init 9 = .ok (.putfield 9, 3) := by decide +kernel
theorem dX4_init_12 : decode cX4_init 12 = .ok (.aload_n 0, 1) := by decide +kernel
theorem dX4_init_13 : decode cX4_init 13 = .ok (.bipush 84, 2) := by decide +kernel
theorem dX4_init_15 : decode cX4_init 15 = .ok (.newarray .int, 2) := by decide +kernel
theorem dX4_init_17 : decode cX4_init 17 = .ok (.putfield 15, 3) := by decide +kernel
theorem dX4_init_20 : decode cX4_init 20 = .ok (.aload_n 0, 1) := by decide +kernel
theorem dX4_init_21 : decode cX4_init 21 = .ok (.bipush 84, 2) := by decide +kernel
theorem dX4_init_23 : decode cX4_init 23 = .ok (.newarray .int, 2) := by decide +kernel
theorem dX4_init_25 : decode cX4_init 25 = .ok (.putfield 18, 3) := by decide +kernel
theorem dX4_init_28 : decode cX4_init 28 = .ok (.aload_n 0, 1) := by decide +kernel
theorem dX4_init_29 : decode cX4_init 29 = .ok (.bipush 84, 2) := by decide +kernel
theorem dX4_init_31 : decode cX4_init 31 = .ok (.newarray .int, 2) := by decide +kernel
theorem dX4_init_33 : decode cX4_init 33 = .ok (.putfield 21, 3) := by decide +kernel
theorem dX4_init_36 : decode cX4_init 36 = .ok (.aload_n 0, 1) := by decide +kernel
theorem dX4_init_37 : decode cX4_init 37 = .ok (.bipush 84, 2) := by decide +kernel
theorem dX4_init_39 : decode cX4_init 39 = .ok (.newarray .int, 2) := by decide +kernel
theorem dX4_init_41 : decode cX4_init 41 = .ok (.putfield 24, 3) := by decide +kernel
theorem dX4_init_44 : decode cX4_init 44 = .ok (.aload_n 0, 1) := by decide +kernel
theorem dX4_init_45 : decode cX4_init 45 = .ok (.bipush 84, 2) := by decide +kernel
theorem dX4_init_47 : decode cX4_init 47 = .ok (.newarray .int, 2) := by decide +kernel
theorem dX4_init_49 : decode cX4_init 49 = .ok (.putfield 27, 3) := by decide +kernel
theorem dX4_init_52 : decode cX4_init 52 = .ok (.aload_n 0, 1) := by decide +kernel
theorem dX4_init_53 : decode cX4_init 53 = .ok (.bipush 84, 2) := by decide +kernel
theorem dX4_init_55 : decode cX4_init 55 = .ok (.newarray .int, 2) := by decide +kernel
theorem dX4_init_57 : decode cX4_init 57 = .ok (.putfield 30, 3) := by decide +kernel
theorem dX4_init_60 : decode cX4_init 60 = .ok (.return_, 1) := by decide +kernel
theorem dX4_clear_0 : decode cX4_clear 0 = .ok (.aload_n 0, 1) := by decide +kernel
theorem dX4_clear_1 : decode cX4_clear 1 = .ok (.iconst 0, 1) := by decide +kernel
theorem dX4_clear_2 : decode cX4_clear 2 = .ok (.putfield 33, 3) := by decide +kernel
theorem dX4_clear_5 : decode cX4_clear 5 = .ok (.iconst 0, 1) := by decide +kernel
theorem dX4_clear_6 : decode cX4_clear 6 = .ok (.istore_n 1, 1) := by decide +kernel
theorem dX4_clear_7 : decode cX4_clear 7 = .ok (.iload_n 1, 1) := by decide +kernel
theorem dX4_clear_8 : decode cX4_clear 8 = .ok (.bipush 7, 2) := by decide +kernel
theorem dX4_clear_10 : decode cX4_clear 10 = .ok (.if_icmp .ge 16, 3) := by decide +kernel
theorem dX4_clear_13 : decode cX4_clear 13 = .ok (.aload_n 0, 1) := by decide +kernel
theorem dX4_clear_14 : decode cX4_clear 14 = .ok (.getfield 9, 3) := by decide +kernel
theorem dX4_clear_17 : decode cX4_clear 17 = .ok (.iload_n 1, 1) := by decide +kernel
theorem dX4_clear_18 : decode cX4_clear 18 = .ok (.iconst 0, 1) := by decide +kernel
theorem dX4_clear_19 : decode cX4_clear 19 = .ok (.iastore, 1) := by decide +kernel
theorem dX4_clear_20 : decode cX4_clear 20 = .ok (.iinc 1 1, 3) := by decide +kernel
theorem dX4_clear_23 : decode cX4_clear 23 = .ok (.goto (-16), 3) := by decide +kernel
theorem dX4_clear_26 : decode cX4_clear 26 = .ok (.return_, 1) := by decide +kernel
theorem dX4_isLiar_0 : decode cX4_isLiar 0 = .ok (.aload_n 0, 1) := by decide +kernel
theorem dX4_isLiar_1 : decode cX4_isLiar 1 = .ok (.getfield 33, 3) := by decide +kernel
theorem dX4_isLiar_4 : decode cX4_isLiar 4 = .ok (.iload_n 1, 1) := by decide +kernel
theorem dX4_isLiar_5 : decode cX4_isLiar 5 = .ok (.invokestatic 37, 3) := by decide +kernel
theorem dX4_isLiar_8 : decode cX4_isLiar 8 = .ok (.ireturn, 1) := by decide +kernel
theorem dX4_addLiar_0 : decode cX4_addLiar 0 = .ok (.aload_n 0, 1) := by decide +kernel
theorem dX4_addLiar_1 : decode cX4_addLiar 1 = .ok (.dup, 1) := by decide +kernel
theorem dX4_addLiar_2 : decode cX4_addLiar 2 = .ok (.getfield 33, 3) := by decide +kernel
theorem dX4_addLiar_5 : decode cX4_addLiar 5 = .ok (.iconst 1, 1) := by decide +kernel
theorem dX4_addLiar_6 : decode cX4_addLiar 6 = .ok (.iload_n 1, 1) := by decide +kernel
theorem dX4_addLiar_7 : decode cX4_addLiar 7 = .ok (.ishl, 1) := by decide +kernel
theorem dX4_addLiar_8 : decode cX4_addLiar 8 = .ok (.ior, 1) := by decide +kernel
theorem dX4_addLiar_9 : decode cX4_addLiar 9 = .ok (.putfield 33, 3) := by decide +kernel
theorem dX4_addLiar_12 : decode cX4_addLiar 12 = .ok (.return_, 1) := by decide +kernel
theorem dX4_isFull_0 : decode cX4_isFull 0 = .ok (.aload_n 0, 1) := by decide +kernel
theorem dX4_isFull_1 : decode cX4_isFull 1 = .ok (.getfield 9, 3) := by decide +kernel
theorem dX4_isFull_4 : decode cX4_isFull 4 = .ok (.iload_n 1, 1) := by decide +kernel
theorem dX4_isFull_5 : decode cX4_isFull 5 = .ok (.iaload, 1) := by decide +kernel
theorem dX4_isFull_6 : decode cX4_isFull 6 = .ok (.bipush 12, 2) := by decide +kernel
theorem dX4_isFull_8 : decode cX4_isFull 8 = .ok (.if_icmp .lt 7, 3) := by decide +kernel
theorem dX4_isFull_11 : decode cX4_isFull 11 = .ok (.iconst 1, 1) := by decide +kernel
theorem dX4_isFull_12 : decode cX4_isFull 12 = .ok (.goto 4, 3) := by decide +kernel
theorem dX4_isFull_15 : decode cX4_isFull 15 = .ok (.iconst 0, 1) := by decide +kernel
theorem dX4_isFull_16 : decode cX4_isFull 16 = .ok (.ireturn, 1) := by decide +kernel
theorem dX4_inAll_0 : decode cX4_inAll 0 = .ok (.iconst 0, 1) := by decide +kernel
theorem dX4_inAll_1 : decode cX4_inAll 1 = .ok (.istore_n 1, 1) := by decide +kernel
theorem dX4_inAll_2 : decode cX4_inAll 2 = .ok (.iconst 0, 1) := by decide +kernel
theorem dX4_inAll_3 : decode cX4_inAll 3 = .ok (.istore_n 2, 1) := by decide +kernel
theorem dX4_inAll_4 : decode cX4_inAll 4 = .ok (.iload_n 2, 1) := by decide +kernel
theorem dX4_inAll_5 : decode cX4_inAll 5 = .ok (.bipush 7, 2) := by decide +kernel
theorem dX4_inAll_7 : decode cX4_inAll 7 = .ok (.if_icmp .ge 18, 3) := by decide +kernel
theorem dX4_inAll_10 : decode cX4_inAll 10 = .ok (.iload_n 1, 1) := by decide +kernel
theorem dX4_inAll_11 : decode cX4_inAll 11 = .ok (.aload_n 0, 1) := by decide +kernel
theorem dX4_inAll_12 : decode cX4_inAll 12 = .ok (.getfield 9, 3) := by decide +kernel
theorem dX4_inAll_15 : decode cX4_inAll 15 = .ok (.iload_n 2, 1) := by decide +kernel
theorem dX4_inAll_16 : decode cX4_inAll 16 = .ok (.iaload, 1) := by decide +kernel
theorem dX4_inAll_17 : decode cX4_inAll 17 = .ok (.iadd, 1) := by decide +kernel
theorem dX4_inAll_18 : decode cX4_inAll 18 = .ok (.istore_n 1, 1) := by decide +kernel
theorem dX4_inAll_19 : decode cX4_inAll 19 = .ok (.iinc 2 1, 3) := by decide +kernel
theorem dX4_inAll_22 : decode cX4_inAll 22 = .ok (.goto (-18), 3) := by decide +kernel
theorem dX4_inAll_25 : decode cX4_inAll 25 = .ok (.iload_n 1, 1) := by decide +kernel
theorem dX4_inAll_26 : decode cX4_inAll 26 = .ok (.ireturn, 1) := by decide +kernel
theorem dX4_add_0 : decode cX4_add 0 = .ok (.aload_n 0, 1) := by decide +kernel
theorem dX4_add_1 : decode cX4_add 1 = .ok (.iload_n 1, 1) := by decide +kernel
theorem dX4_add_2 : decode cX4_add 2 = .ok (.invokevirtual 43, 3) := by decide +kernel
theorem dX4_add_5 : decode cX4_add 5 = .ok (.ifCond .ne 59, 3) := by decide +kernel
theorem dX4_add_8 : decode cX4_add 8 = .ok (.iload_n 1, 1) := by decide +kernel
theorem dX4_add_9 : decode cX4_add 9 = .ok (.bipush 12, 2) := by decide +kernel
theorem dX4_add_11 : decode cX4_add 11 = .ok (.imul, 1) := by decide +kernel
theorem dX4_add_12 : decode cX4_add 12 = .ok (.aload_n 0, 1) := by decide +kernel
theorem dX4_add_13 : decode cX4_add 13 = .ok (.getfield 9, 3) := by decide +kernel
theorem dX4_add_16 : decode cX4_add 16 = .ok (.iload_n 1, 1) := by decide +kernel
theorem dX4_add_17 : decode cX4_add 17 = .ok (.iaload, 1) := by decide +kernel
theorem dX4_add_18 : decode cX4_add 18 = .ok (.iadd, 1) := by decide +kernel
theorem dX4_add_19 : decode cX4_add 19 = .ok (.istore 5, 2) := by decide +kernel
theorem dX4_add_21 : decode cX4_add 21 = .ok (.aload_n 0, 1) := by decide +kernel
theorem dX4_add_22 : decode cX4_add 22 = .ok (.getfield 9, 3) := by decide +kernel
theorem dX4_add_25 : decode cX4_add 25 = .ok (.iload_n 1, 1) := by decide +kernel
theorem dX4_add_26 : decode cX4_add 26 = .ok (.dup2, 1) := by decide +kernel
theorem dX4_add_27 : decode cX4_add 27 = .ok (.iaload, 1) := by decide +kernel
theorem dX4_add_28 : decode cX4_add 28 = .ok (.iconst 1, 1) := by decide +kernel
theorem dX4_add_29 : decode cX4_add 29 = .ok (.iadd, 1) := by decide +kernel
theorem dX4_add_30 : decode cX4_add 30 = .ok (.iastore, 1) := by decide +kernel
theorem dX4_add_31 : decode cX4_add 31 = .ok (.aload_n 0, 1) := by decide +kernel
theorem dX4_add_32 : decode cX4_add 32 = .ok (.getfield 15, 3) := by decide +kernel
theorem dX4_add_35 : decode cX4_add 35 = .ok (.iload 5, 2) := by decide +kernel
theorem dX4_add_37 : decode cX4_add 37 = .ok (.iload_n 2, 1) := by decide +kernel
theorem dX4_add_38 : decode cX4_add 38 = .ok (.iastore, 1) := by decide +kernel
theorem dX4_add_39 : decode cX4_add 39 = .ok (.aload_n 0, 1) := by decide +kernel
theorem dX4_add_40 : decode cX4_add 40 = .ok (.getfield 18, 3) := by decide +kernel
theorem dX4_add_43 : decode cX4_add 43 = .ok (.iload 5, 2) := by decide +kernel
theorem dX4_add_45 : decode cX4_add 45 = .ok (.iload_n 3, 1) := by decide +kernel
theorem dX4_add_46 : decode cX4_add 46 = .ok (.iastore, 1) := by decide +kernel
theorem dX4_add_47 : decode cX4_add 47 = .ok (.aload_n 0, 1) := by decide +kernel
theorem dX4_add_48 : decode cX4_add 48 = .ok (.getfield 21, 3) := by decide +kernel
theorem dX4_add_51 : decode cX4_add 51 = .ok (.iload 5, 2) := by decide +kernel
theorem dX4_add_53 : decode cX4_add 53 = .ok (.iload 4, 2) := by decide +kernel
theorem dX4_add_55 : decode cX4_add 55 = .ok (.iastore, 1) := by decide +kernel
theorem dX4_add_56 : decode cX4_add 56 = .ok (.aload_n 0, 1) := by decide +kernel
theorem dX4_add_57 : decode cX4_add 57 = .ok (.iload_n 1, 1) := by decide +kernel
theorem dX4_add_58 : decode cX4_add 58 = .ok (.iconst 4, 1) := by decide +kernel
theorem dX4_add_59 : decode cX4_add 59 = .ok (.iconst 0, 1) := by decide +kernel
theorem dX4_add_60 : decode cX4_add 60 = .ok (.iconst 0, 1) := by decide +kernel
theorem dX4_add_61 : decode cX4_add 61 = .ok (.invokevirtual 47, 3) := by decide +kernel
theorem dX4_add_64 : decode cX4_add 64 = .ok (.return_, 1) := by decide +kernel
theorem dX4_setAct_0 : decode cX4_setAct 0 = .ok (.aload_n 0, 1) := by decide +kernel
theorem dX4_setAct_1 : decode cX4_setAct 1 = .ok (.getfield 9, 3) := by decide +kernel
theorem dX4_setAct_4 : decode cX4_setAct 4 = .ok (.iload_n 1, 1) := by decide +kernel
theorem dX4_setAct_5 : decode cX4_setAct 5 = .ok (.iaload, 1) := by decide +kernel
theorem dX4_setAct_6 : decode cX4_setAct 6 = .ok (.ifCond .le 43, 3) := by decide +kernel
theorem dX4_setAct_9 : decode cX4_setAct 9 = .ok (.iload_n 1, 1) := by decide +kernel
theorem dX4_setAct_10 : decode cX4_setAct 10 = .ok (.bipush 12, 2) := by decide +kernel
theorem dX4_setAct_12 : decode cX4_setAct 12 = .ok (.imul, 1) := by decide +kernel
theorem dX4_setAct_13 : decode cX4_setAct 13 = .ok (.aload_n 0, 1) := by decide +kernel
theorem dX4_setAct_14 : decode cX4_setAct 14 = .ok (.getfield 9, 3) := by decide +kernel
theorem dX4_setAct_17 : decode cX4_setAct 17 = .ok (.iload_n 1, 1) := by decide +kernel
theorem dX4_setAct_18 : decode cX4_setAct 18 = .ok (.iaload, 1) := by decide +kernel
theorem dX4_setAct_19 : decode cX4_setAct 19 = .ok (.iadd, 1) := by decide +kernel
theorem dX4_setAct_20 : decode cX4_setAct 20 = .ok (.iconst 1, 1) := by decide +kernel
theorem dX4_setAct_21 : decode cX4_setAct 21 = .ok (.isub, 1) := by decide +kernel
theorem dX4_setAct_22 : decode cX4_setAct 22 = .ok (.istore 5, 2) := by decide +kernel
theorem dX4_setAct_24 : decode cX4_setAct 24 = .ok (.aload_n 0, 1) := by decide +kernel
theorem dX4_setAct_25 : decode cX4_setAct 25 = .ok (.getfield 24, 3) := by decide +kernel
theorem dX4_setAct_28 : decode cX4_setAct 28 = .ok (.iload 5, 2) := by decide +kernel
theorem dX4_setAct_30 : decode cX4_setAct 30 = .ok (.iload_n 2, 1) := by decide +kernel
theorem dX4_setAct_31 : decode cX4_setAct 31 = .ok (.iastore, 1) := by decide +kernel
theorem dX4_setAct_32 : decode cX4_setAct 32 = .ok (.aload_n 0, 1) := by decide +kernel
theorem dX4_setAct_33 : decode cX4_setAct 33 = .ok (.getfield 27, 3) := by decide +kernel
theorem dX4_setAct_36 : decode cX4_setAct 36 = .ok (.iload 5, 2) := by decide +kernel
theorem dX4_setAct_38 : decode cX4_setAct 38 = .ok (.iload_n 3, 1) := by decide +kernel
theorem dX4_setAct_39 : decode cX4_setAct 39 = .ok (.iastore, 1) := by decide +kernel
theorem dX4_setAct_40 : decode cX4_setAct 40 = .ok (.aload_n 0, 1) := by decide +kernel
theorem dX4_setAct_41 : decode cX4_setAct 41 = .ok (.getfield 30, 3) := by decide +kernel
theorem dX4_setAct_44 : decode cX4_setAct 44 = .ok (.iload 5, 2) := by decide +kernel
theorem dX4_setAct_46 : decode cX4_setAct 46 = .ok (.iload 4, 2) := by decide +kernel
theorem dX4_setAct_48 : decode cX4_setAct 48 = .ok (.iastore, 1) := by decide +kernel
theorem dX4_setAct_49 : decode cX4_setAct 49 = .ok (.return_, 1) := by decide +kernel
theorem dX4_said_0 : decode cX4_said 0 = .ok (.iconst 0, 1) := by decide +kernel
theorem dX4_said_1 : decode cX4_said 1 = .ok (.istore 6, 2) := by decide +kernel
theorem dX4_said_3 : decode cX4_said 3 = .ok (.iload 6, 2) := by decide +kernel
theorem dX4_said_5 : decode cX4_said 5 = .ok (.aload_n 0, 1) := by decide +kernel
theorem dX4_said_6 : decode cX4_said 6 = .ok (.getfield 9, 3) := by decide +kernel
theorem dX4_said_9 : decode cX4_said 9 = .ok (.iload_n 1, 1) := by decide +kernel
theorem dX4_said_10 : decode cX4_said 10 = .ok (.iaload, 1) := by decide +kernel
theorem dX4_said_11 : decode cX4_said 11 = .ok (.if_icmp .ge 71, 3) := by decide +kernel
theorem dX4_said_14 : decode cX4_said 14 = .ok (.iload_n 1, 1) := by decide +kernel
theorem dX4_said_15 : decode cX4_said 15 = .ok (.bipush 12, 2) := by decide +kernel
theorem dX4_said_17 : decode cX4_said 17 = .ok (.imul, 1) := by decide +kernel
theorem dX4_said_18 : decode cX4_said 18 = .ok (.iload 6, 2) := by decide +kernel
theorem dX4_said_20 : decode cX4_said 20 = .ok (.iadd, 1) := by decide +kernel
theorem dX4_said_21 : decode cX4_said 21 = .ok (.istore 7, 2) := by decide +kernel
theorem dX4_said_23 : decode cX4_said 23 = .ok (.aload_n 0, 1) := by decide +kernel
theorem dX4_said_24 : decode cX4_said 24 = .ok (.getfield 15, 3) := by decide +kernel
theorem dX4_said_27 : decode cX4_said 27 = .ok (.iload 7, 2) := by decide +kernel
theorem dX4_said_29 : decode cX4_said 29 = .ok (.iaload, 1) := by decide +kernel
theorem dX4_said_30 : decode cX4_said 30 = .ok (.iload_n 2, 1) := by decide +kernel
theorem dX4_said_31 : decode cX4_said 31 = .ok (.invokestatic 51, 3) := by decide +kernel
theorem dX4_said_34 : decode cX4_said 34 = .ok (.ifCond .eq 42, 3) := by decide +kernel
theorem dX4_said_37 : decode cX4_said 37 = .ok (.aload_n 0, 1) := by decide +kernel
theorem dX4_said_38 : decode cX4_said 38 = .ok (.getfield 18, 3) := by decide +kernel
theorem dX4_said_41 : decode cX4_said 41 = .ok (.iload 7, 2) := by decide +kernel
theorem dX4_said_43 : decode cX4_said 43 = .ok (.iaload, 1) := by decide +kernel
theorem dX4_said_44 : decode cX4_said 44 = .ok (.iload_n 3, 1) := by decide +kernel
theorem dX4_said_45 : decode cX4_said 45 = .ok (.invokestatic 51, 3) := by decide +kernel
theorem dX4_said_48 : decode cX4_said 48 = .ok (.ifCond .eq 28, 3) := by decide +kernel
theorem dX4_said_51 : decode cX4_said 51 = .ok (.aload_n 0, 1) := by decide +kernel
theorem dX4_said_52 : decode cX4_said 52 = .ok (.getfield 21, 3) := by decide +kernel
theorem dX4_said_55 : decode cX4_said 55 = .ok (.iload 7, 2) := by decide +kernel
theorem dX4_said_57 : decode cX4_said 57 = .ok (.iaload, 1) := by decide +kernel
theorem dX4_said_58 : decode cX4_said 58 = .ok (.iload 4, 2) := by decide +kernel
theorem dX4_said_60 : decode cX4_said 60 = .ok (.invokestatic 51, 3) := by decide +kernel
theorem dX4_said_63 : decode cX4_said 63 = .ok (.ifCond .eq 13, 3) := by decide +kernel
theorem dX4_said_66 : decode cX4_said 66 = .ok (.aload_n 0, 1) := by decide +kernel
theorem dX4_said_67 : decode cX4_said 67 = .ok (.iload 7, 2) := by decide +kernel
theorem dX4_said_69 : decode cX4_said 69 = .ok (.iload_n 3, 1) := by decide +kernel
theorem dX4_said_70 : decode cX4_said 70 = .ok (.iload 5, 2) := by decide +kernel
theorem dX4_said_72 : decode cX4_said 72 = .ok (.invokevirtual 54, 3) := by decide +kernel
theorem dX4_said_75 : decode cX4_said 75 = .ok (.lreturn, 1) := by decide +kernel
theorem dX4_said_76 : decode cX4_said 76 = .ok (.iinc 6 1, 3) := by decide +kernel
theorem dX4_said_79 : decode cX4_said 79 = .ok (.goto (-76), 3) := by decide +kernel
theorem dX4_said_82 : decode cX4_said 82 = .ok (.iload 5, 2) := by decide +kernel
theorem dX4_said_84 : decode cX4_said 84 = .ok (.i2l, 1) := by decide +kernel
theorem dX4_said_85 : decode cX4_said 85 = .ok (.ldc2_w 58, 3) := by decide +kernel
theorem dX4_said_88 : decode cX4_said 88 = .ok (.land, 1) := by decide +kernel
theorem dX4_said_89 : decode cX4_said 89 = .ok (.lreturn, 1) := by decide +kernel
theorem dX4_fits_0 : decode cX4_fits 0 = .ok (.iload_n 0, 1) := by decide +kernel
theorem dX4_fits_1 : decode cX4_fits 1 = .ok (.iconst (-1), 1) := by decide +kernel
theorem dX4_fits_2 : decode cX4_fits 2 = .ok (.if_icmp .eq 8, 3) := by decide +kernel
theorem dX4_fits_5 : decode cX4_fits 5 = .ok (.iload_n 0, 1) := by decide +kernel
theorem dX4_fits_6 : decode cX4_fits 6 = .ok (.iload_n 1, 1) := by decide +kernel
theorem dX4_fits_7 : decode cX4_fits 7 = .ok (.if_icmp .ne 7, 3) := by decide +kernel
theorem dX4_fits_10 : decode cX4_fits 10 = .ok (.iconst 1, 1) := by decide +kernel
theorem dX4_fits_11 : decode cX4_fits 11 = .ok (.goto 4, 3) := by decide +kernel
theorem dX4_fits_14 : decode cX4_fits 14 = .ok (.iconst 0, 1) := by decide +kernel
theorem dX4_fits_15 : decode cX4_fits 15 = .ok (.ireturn, 1) := by decide +kernel
theorem dX4_saidBy_0 : decode cX4_saidBy 0 = .ok (.aload_n 0, 1) := by decide +kernel
theorem dX4_saidBy_1 : decode cX4_saidBy 1 = .ok (.getfield 24, 3) := by decide +kernel
theorem dX4_saidBy_4 : decode cX4_saidBy 4 = .ok (.iload_n 1, 1) := by decide +kernel
theorem dX4_saidBy_5 : decode cX4_saidBy 5 = .ok (.iaload, 1) := by decide +kernel
theorem dX4_saidBy_6 : decode cX4_saidBy 6 = .ok (.tableswitch 77 0 3 #[30, 42, 69, 73], 30) := by decide +kernel
theorem dX4_saidBy_36 : decode cX4_saidBy 36 = .ok (.aload_n 0, 1) := by decide +kernel
theorem dX4_saidBy_37 : decode cX4_saidBy 37 = .ok (.getfield 27, 3) := by decide +kernel
theorem dX4_saidBy_40 : decode cX4_saidBy 40 = .ok (.iload_n 1, 1) := by decide +kernel
theorem dX4_saidBy_41 : decode cX4_saidBy 41 = .ok (.iaload, 1) := by decide +kernel
theorem dX4_saidBy_42 : decode cX4_saidBy 42 = .ok (.i2l, 1) := by decide +kernel
theorem dX4_saidBy_43 : decode cX4_saidBy 43 = .ok (.ldc2_w 58, 3) := by decide +kernel
theorem dX4_saidBy_46 : decode cX4_saidBy 46 = .ok (.land, 1) := by decide +kernel
theorem dX4_saidBy_47 : decode cX4_saidBy 47 = .ok (.lreturn, 1) := by decide +kernel
theorem dX4_saidBy_48 : decode cX4_saidBy 48 = .ok (.iload_n 2, 1) := by decide +kernel
theorem dX4_saidBy_49 : decode cX4_saidBy 49 = .ok (.iconst 2, 1) := by decide +kernel
theorem dX4_saidBy_50 : decode cX4_saidBy 50 = .ok (.irem, 1) := by decide +kernel
theorem dX4_saidBy_51 : decode cX4_saidBy 51 = .ok (.ifCond .ne 12, 3) := by decide +kernel
theorem dX4_saidBy_54 : decode cX4_saidBy 54 = .ok (.aload_n 0, 1) := by decide +kernel
theorem dX4_saidBy_55 : decode cX4_saidBy 55 = .ok (.getfield 27, 3) := by decide +kernel
theorem dX4_saidBy_58 : decode cX4_saidBy 58 = .ok (.iload_n 1, 1) := by decide +kernel
theorem dX4_saidBy_59 : decode cX4_saidBy 59 = .ok (.iaload, 1) := by decide +kernel
theorem dX4_saidBy_60 : decode cX4_saidBy 60 = .ok (.goto 9, 3) := by decide +kernel
theorem dX4_saidBy_63 : decode cX4_saidBy 63 = .ok (.aload_n 0, 1) := by decide +kernel
theorem dX4_saidBy_64 : decode cX4_saidBy 64 = .ok (.getfield 30, 3) := by decide +kernel
theorem dX4_saidBy_67 : decode cX4_saidBy 67 = .ok (.iload_n 1, 1) := by decide +kernel
theorem dX4_saidBy_68 : decode cX4_saidBy 68 = .ok (.iaload, 1) := by decide +kernel
theorem dX4_saidBy_69 : decode cX4_saidBy 69 = .ok (.i2l, 1) := by decide +kernel
theorem dX4_saidBy_70 : decode cX4_saidBy 70 = .ok (.ldc2_w 58, 3) := by decide +kernel
theorem dX4_saidBy_73 : decode cX4_saidBy 73 = .ok (.land, 1) := by decide +kernel
theorem dX4_saidBy_74 : decode cX4_saidBy 74 = .ok (.lreturn, 1) := by decide +kernel
theorem dX4_saidBy_75 : decode cX4_saidBy 75 = .ok (.ldc2_w 60, 3) := by decide +kernel
theorem dX4_saidBy_78 : decode cX4_saidBy 78 = .ok (.lreturn, 1) := by decide +kernel
theorem dX4_saidBy_79 : decode cX4_saidBy 79 = .ok (.ldc2_w 62, 3) := by decide +kernel
theorem dX4_saidBy_82 : decode cX4_saidBy 82 = .ok (.lreturn, 1) := by decide +kernel
theorem dX4_saidBy_83 : decode cX4_saidBy 83 = .ok (.iload_n 3, 1) := by decide +kernel
theorem dX4_saidBy_84 : decode cX4_saidBy 84 = .ok (.i2l, 1) := by decide +kernel
theorem dX4_saidBy_85 : decode cX4_saidBy 85 = .ok (.ldc2_w 58, 3) := by decide +kernel
theorem dX4_saidBy_88 : decode cX4_saidBy 88 = .ok (.land, 1) := by decide +kernel
theorem dX4_saidBy_89 : decode cX4_saidBy 89 = .ok (.lreturn, 1) := by decide +kernel
theorem dX5_init_0 : decode cX5_init 0 = .ok (.aload_n 0, 1) := by decide +kernel
theorem dX5_init_1 : decode cX5_init 1 = .ok (.invokespecial 3, 3) := by decide +kernel
theorem dX5_init_4 : decode cX5_init 4 = .ok (.aload_n 0, 1) := by decide +kernel
theorem dX5_init_5 : decode cX5_init 5 = .ok (.bipush 7, 2) := by decide +kernel
theorem dX5_init_7 : decode cX5_init 7 = .ok (.newarray .float, 2) := by decide +kernel
theorem dX5_init_9 : decode cX5_init 9 = .ok (.putfield 9, 3) := by decide +kernel
theorem dX5_init_12 : decode cX5_init 12 = .ok (.aload_n 0, 1) := by decide +kernel
theorem dX5_init_13 : decode cX5_init 13 = .ok (.bipush 7, 2) := by decide +kernel
theorem dX5_init_15 : decode cX5_init 15 = .ok (.newarray .float, 2) := by decide +kernel
theorem dX5_init_17 : decode cX5_init 17 = .ok (.putfield 15, 3) := by decide +kernel
theorem dX5_init_20 : decode cX5_init 20 = .ok (.aload_n 0, 1) := by decide +kernel
theorem dX5_init_21 : decode cX5_init 21 = .ok (.bipush 7, 2) := by decide +kernel
theorem dX5_init_23 : decode cX5_init 23 = .ok (.newarray .float, 2) := by decide +kernel
theorem dX5_init_25 : decode cX5_init 25 = .ok (.putfield 18, 3) := by decide +kernel
theorem dX5_init_28 : decode cX5_init 28 = .ok (.return_, 1) := by decide +kernel
theorem dX5_play_0 : decode cX5_play 0 = .ok (.aload_n 0, 1) := by decide +kernel
theorem dX5_play_1 : decode cX5_play 1 = .ok (.aload_n 1, 1) := by decide +kernel
theorem dX5_play_2 : decode cX5_play 2 = .ok (.invokevirtual 21, 3) := by decide +kernel
theorem dX5_play_5 : decode cX5_play 5 = .ok (.iconst 0, 1) := by decide +kernel
theorem dX5_play_6 : decode cX5_play 6 = .ok (.istore 4, 2) := by decide +kernel
theorem dX5_play_8 : decode cX5_play 8 = .ok (.iload 4, 2) := by decide +kernel
theorem dX5_play_10 : decode cX5_play 10 = .ok (.iload_n 2, 1) := by decide +kernel
theorem dX5_play_11 : decode cX5_play 11 = .ok (.if_icmp .ge 15, 3) := by decide +kernel
theorem dX5_play_14 : decode cX5_play 14 = .ok (.aload_n 0, 1) := by decide +kernel
theorem dX5_play_15 : decode cX5_play 15 = .ok (.aload_n 1, 1) := by decide +kernel
theorem dX5_play_16 : decode cX5_play 16 = .ok (.iload_n 3, 1) := by decide +kernel
theorem dX5_play_17 : decode cX5_play 17 = .ok (.invokevirtual 25, 3) := by decide +kernel
theorem dX5_play_20 : decode cX5_play 20 = .ok (.iinc 4 1, 3) := by decide +kernel
theorem dX5_play_23 : decode cX5_play 23 = .ok (.goto (-15), 3) := by decide +kernel
theorem dX5_play_26 : decode cX5_play 26 = .ok (.return_, 1) := by decide +kernel
theorem dX5_leastSteps_0 : decode cX5_leastSteps 0 = .ok (.aload_n 0, 1) := by decide +kernel
theorem dX5_leastSteps_1 : decode cX5_leastSteps 1 = .ok (.aload_n 1, 1) := by decide +kernel
theorem dX5_leastSteps_2 : decode cX5_leastSteps 2 = .ok (.invokevirtual 21, 3) := by decide +kernel
theorem dX5_leastSteps_5 : decode cX5_leastSteps 5 = .ok (.iconst 0, 1) := by decide +kernel
theorem dX5_leastSteps_6 : decode cX5_leastSteps 6 = .ok (.istore 4, 2) := by decide +kernel
theorem dX5_leastSteps_8 : decode cX5_leastSteps 8 = .ok (.iload 4, 2) := by decide +kernel
theorem dX5_leastSteps_10 : decode cX5_leastSteps 10 = .ok (.bipush 60, 2) := by decide +kernel
theorem dX5_leastSteps_12 : decode cX5_leastSteps 12 = .ok (.if_icmp .gt 28, 3) := by decide +kernel
theorem dX5_leastSteps_15 : decode cX5_leastSteps 15 = .ok (.aload_n 0, 1) := by decide +kernel
theorem dX5_leastSteps_16 : decode cX5_leastSteps 16 = .ok (.aload_n 1, 1) := by decide +kernel
theorem dX5_leastSteps_17 : decode cX5_leastSteps 17 = .ok (.invokevirtual 29, 3) := by decide +kernel
theorem dX5_leastSteps_20 : decode cX5_leastSteps 20 = .ok (.fload_n 2, 1) := by decide +kernel
theorem dX5_leastSteps_21 : decode cX5_leastSteps 21 = .ok (.fcmp .g, 1) := by decide +kernel
theorem dX5_leastSteps_22 : decode cX5_leastSteps 22 = .ok (.ifCond .gt 6, 3) := by decide +kernel
theorem dX5_leastSteps_25 : decode cX5_leastSteps 25 = .ok (.iload 4, 2) := by decide +kernel
theorem dX5_leastSteps_27 : decode cX5_leastSteps 27 = .ok (.ireturn, 1) := by decide +kernel
theorem dX5_leastSteps_28 : decode cX5_leastSteps 28 = .ok (.aload_n 0, 1) := by decide +kernel
theorem dX5_leastSteps_29 : decode cX5_leastSteps 29 = .ok (.aload_n 1, 1) := by decide +kernel
theorem dX5_leastSteps_30 : decode cX5_leastSteps 30 = .ok (.iload_n 3, 1) := by decide +kernel
theorem dX5_leastSteps_31 : decode cX5_leastSteps 31 = .ok (.invokevirtual 25, 3) := by decide +kernel
theorem dX5_leastSteps_34 : decode cX5_leastSteps 34 = .ok (.iinc 4 1, 3) := by decide +kernel
theorem dX5_leastSteps_37 : decode cX5_leastSteps 37 = .ok (.goto (-29), 3) := by decide +kernel
theorem dX5_leastSteps_40 : decode cX5_leastSteps 40 = .ok (.iconst (-1), 1) := by decide +kernel
theorem dX5_leastSteps_41 : decode cX5_leastSteps 41 = .ok (.ireturn, 1) := by decide +kernel
theorem dX5_width_0 : decode cX5_width 0 = .ok (.iconst (-1), 1) := by decide +kernel
theorem dX5_width_1 : decode cX5_width 1 = .ok (.istore_n 2, 1) := by decide +kernel
theorem dX5_width_2 : decode cX5_width 2 = .ok (.iconst (-1), 1) := by decide +kernel
theorem dX5_width_3 : decode cX5_width 3 = .ok (.istore_n 3, 1) := by decide +kernel
theorem dX5_width_4 : decode cX5_width 4 = .ok (.iconst 0, 1) := by decide +kernel
theorem dX5_width_5 : decode cX5_width 5 = .ok (.istore 4, 2) := by decide +kernel
theorem dX5_width_7 : decode cX5_width 7 = .ok (.iload 4, 2) := by decide +kernel
theorem dX5_width_9 : decode cX5_width 9 = .ok (.aload_n 1, 1) := by decide +kernel
theorem dX5_width_10 : decode cX5_width 10 = .ok (.getfield 33, 3) := by decide +kernel
theorem dX5_width_13 : decode cX5_width 13 = .ok (.if_icmp .ge 79, 3) := by decide +kernel
theorem dX5_width_16 : decode cX5_width 16 = .ok (.aload_n 1, 1) := by decide +kernel
theorem dX5_width_17 : decode cX5_width 17 = .ok (.getfield 39, 3) := by decide +kernel
theorem dX5_width_20 : decode cX5_width 20 = .ok (.iload 4, 2) := by decide +kernel
theorem dX5_width_22 : decode cX5_width 22 = .ok (.invokevirtual 43, 3) := by decide +kernel
theorem dX5_width_25 : decode cX5_width 25 = .ok (.ifCond .ne 61, 3) := by decide +kernel
theorem dX5_width_28 : decode cX5_width 28 = .ok (.iload_n 2, 1) := by decide +kernel
theorem dX5_width_29 : decode cX5_width 29 = .ok (.iconst (-1), 1) := by decide +kernel
theorem dX5_width_30 : decode cX5_width 30 = .ok (.if_icmp .eq 20, 3) := by decide +kernel
theorem dX5_width_33 : decode cX5_width 33 = .ok (.aload_n 0, 1) := by decide +kernel
theorem dX5_width_34 : decode cX5_width 34 = .ok (.getfield 9, 3) := by decide +kernel
theorem dX5_width_37 : decode cX5_width 37 = .ok (.iload 4, 2) := by decide +kernel
theorem dX5_width_39 : decode cX5_width 39 = .ok (.faload, 1) := by decide +kernel
theorem dX5_width_40 : decode cX5_width 40 = .ok (.aload_n 0, 1) := by decide +kernel
theorem dX5_width_41 : decode cX5_width 41 = .ok (.getfield 9, 3) := by decide +kernel
theorem dX5_width_44 : decode cX5_width 44 = .ok (.iload_n 2, 1) := by decide +kernel
theorem dX5_width_45 : decode cX5_width 45 = .ok (.faload, 1) := by decide +kernel
theorem dX5_width_46 : decode cX5_width 46 = .ok (.fcmp .g, 1) := by decide +kernel
theorem dX5_width_47 : decode cX5_width 47 = .ok (.ifCond .ge 8, 3) := by decide +kernel
theorem dX5_width_50 : decode cX5_width 50 = .ok (.iload 4, 2) := by decide +kernel
theorem dX5_width_52 : decode cX5_width 52 = .ok (.goto 4, 3) := by decide +kernel
theorem dX5_width_55 : decode cX5_width 55 = .ok (.iload_n 2, 1) := by decide +kernel
theorem dX5_width_56 : decode cX5_width 56 = .ok (.istore_n 2, 1) := by decide +kernel
theorem dX5_width_57 : decode cX5_width 57 = .ok (.iload_n 3, 1) := by decide +kernel
theorem dX5_width_58 : decode cX5_width 58 = .ok (.iconst (-1), 1) := by decide +kernel
theorem dX5_width_59 : decode cX5_width 59 = .ok (.if_icmp .eq 20, 3) := by decide +kernel
theorem dX5_width_62 : decode cX5_width 62 = .ok (.aload_n 0, 1) := by decide +kernel
theorem dX5_width_63 : decode cX5_width 63 = .ok (.getfield 9, 3) := by decide +kernel
theorem dX5_width_66 : decode cX5_width 66 = .ok (.iload 4, 2) := by decide +kernel
theorem dX5_width_68 : decode cX5_width 68 = .ok (.faload, 1) := by decide +kernel
theorem dX5_width_69 : decode cX5_width 69 = .ok (.aload_n 0, 1) := by decide +kernel
theorem dX5_width_70 : decode cX5_width 70 = .ok (.getfield 9, 3) := by decide +kernel
theorem dX5_width_73 : decode cX5_width 73 = .ok (.iload_n 3, 1) := by decide +kernel
theorem dX5_width_74 : decode cX5_width 74 = .ok (.faload, 1) := by decide +kernel
theorem dX5_width_75 : decode cX5_width 75 = .ok (.fcmp .l, 1) := by decide +kernel
theorem dX5_width_76 : decode cX5_width 76 = .ok (.ifCond .le 8, 3) := by decide +kernel
theorem dX5_width_79 : decode cX5_width 79 = .ok (.iload 4, 2) := by decide +kernel
theorem dX5_width_81 : decode cX5_width 81 = .ok (.goto 4, 3) := by decide +kernel
theorem dX5_width_84 : decode cX5_width 84 = .ok (.iload_n 3, 1) := by decide +kernel
theorem dX5_width_85 : decode cX5_width 85 = .ok (.istore_n 3, 1) := by decide +kernel
theorem dX5_width_86 : decode cX5_width 86 = .ok (.iinc 4 1, 3) := by decide +kernel
theorem dX5_width_89 : decode cX5_width 89 = .ok (.goto (-82), 3) := by decide +kernel
theorem dX5_width_92 : decode cX5_width 92 = .ok (.iload_n 2, 1) := by decide +kernel
theorem dX5_width_93 : decode cX5_width 93 = .ok (.iconst (-1), 1) := by decide +kernel
theorem dX5_width_94 : decode cX5_width 94 = .ok (.if_icmp .eq 8, 3) := by decide +kernel
theorem dX5_width_97 : decode cX5_width 97 = .ok (.iload_n 3, 1) := by decide +kernel
theorem dX5_width_98 : decode cX5_width 98 = .ok (.iconst (-1), 1) := by decide +kernel
theorem dX5_width_99 : decode cX5_width 99 = .ok (.if_icmp .ne 7, 3) := by decide +kernel
theorem dX5_width_102 : decode cX5_width 102 = .ok (.fconst 0, 1) := by decide +kernel
theorem dX5_width_103 : decode cX5_width 103 = .ok (.goto 16, 3) := by decide +kernel
theorem dX5_width_106 : decode cX5_width 106 = .ok (.aload_n 0, 1) := by decide +kernel
theorem dX5_width_107 : decode cX5_width 107 = .ok (.getfield 9, 3) := by decide +kernel
theorem dX5_width_110 : decode cX5_width 110 = .ok (.iload_n 3, 1) := by decide +kernel
theorem dX5_width_111 : decode cX5_width 111 = .ok (.faload, 1) := by decide +kernel
theorem dX5_width_112 : decode cX5_width 112 = .ok (.aload_n 0, 1) := by decide +kernel
theorem dX5_width_113 : decode cX5_width 113 = .ok (.getfield 9, 3) := by decide +kernel
theorem dX5_width_116 : decode cX5_width 116 = .ok (.iload_n 2, 1) := by decide +kernel
theorem dX5_width_117 : decode cX5_width 117 = .ok (.faload, 1) := by decide +kernel
theorem dX5_width_118 : decode cX5_width 118 = .ok (.fsub, 1) := by decide +kernel
theorem dX5_width_119 : decode cX5_width 119 = .ok (.freturn, 1) := by decide +kernel
theorem dX5_sum_0 : decode cX5_sum 0 = .ok (.dconst 0, 1) := by decide +kernel
theorem dX5_sum_1 : decode cX5_sum 1 = .ok (.dstore_n 2, 1) := by decide +kernel
theorem dX5_sum_2 : decode cX5_sum 2 = .ok (.iconst 0, 1) := by decide +kernel
theorem dX5_sum_3 : decode cX5_sum 3 = .ok (.istore 4, 2) := by decide +kernel
theorem dX5_sum_5 : decode cX5_sum 5 = .ok (.iload 4, 2) := by decide +kernel
theorem dX5_sum_7 : decode cX5_sum 7 = .ok (.aload_n 1, 1) := by decide +kernel
theorem dX5_sum_8 : decode cX5_sum 8 = .ok (.getfield 33, 3) := by decide +kernel
theorem dX5_sum_11 : decode cX5_sum 11 = .ok (.if_icmp .ge 36, 3) := by decide +kernel
theorem dX5_sum_14 : decode cX5_sum 14 = .ok (.dload_n 2, 1) := by decide +kernel
theorem dX5_sum_15 : decode cX5_sum 15 = .ok (.aload_n 1, 1) := by decide +kernel
theorem dX5_sum_16 : decode cX5_sum 16 = .ok (.getfield 39, 3) := by decide +kernel
theorem dX5_sum_19 : decode cX5_sum 19 = .ok (.iload 4, 2) := by decide +kernel
theorem dX5_sum_21 : decode cX5_sum 21 = .ok (.invokevirtual 43, 3) := by decide +kernel
theorem dX5_sum_24 : decode cX5_sum 24 = .ok (.ifCond .eq 7, 3) := by decide +kernel
theorem dX5_sum_27 : decode cX5_sum 27 = .ok (.dconst 0, 1) := by decide +kernel
theorem dX5_sum_28 : decode cX5_sum 28 = .ok (.goto 11, 3) := by decide +kernel
theorem dX5_sum_31 : decode cX5_sum 31 = .ok (.aload_n 0, 1) := by decide +kernel
theorem dX5_sum_32 : decode cX5_sum 32 = .ok (.getfield 9, 3) := by decide +kernel
theorem dX5_sum_35 : decode cX5_sum 35 = .ok (.iload 4, 2) := by decide +kernel
theorem dX5_sum_37 : decode cX5_sum 37 = .ok (.faload, 1) := by decide +kernel
theorem dX5_sum_38 : decode cX5_sum 38 = .ok (.f2d, 1) := by decide +kernel
theorem dX5_sum_39 : decode cX5_sum 39 = .ok (.dadd, 1) := by decide +kernel
theorem dX5_sum_40 : decode cX5_sum 40 = .ok (.dstore_n 2, 1) := by decide +kernel
theorem dX5_sum_41 : decode cX5_sum 41 = .ok (.iinc 4 1, 3) := by decide +kernel
theorem dX5_sum_44 : decode cX5_sum 44 = .ok (.goto (-39), 3) := by decide +kernel
theorem dX5_sum_47 : decode cX5_sum 47 = .ok (.dload_n 2, 1) := by decide +kernel
theorem dX5_sum_48 : decode cX5_sum 48 = .ok (.dreturn, 1) := by decide +kernel
theorem dX5_begin_0 : decode cX5_begin 0 = .ok (.iconst 0, 1) := by decide +kernel
theorem dX5_begin_1 : decode cX5_begin 1 = .ok (.istore_n 2, 1) := by decide +kernel
theorem dX5_begin_2 : decode cX5_begin 2 = .ok (.iload_n 2, 1) := by decide +kernel
theorem dX5_begin_3 : decode cX5_begin 3 = .ok (.bipush 7, 2) := by decide +kernel
theorem dX5_begin_5 : decode cX5_begin 5 = .ok (.if_icmp .ge 24, 3) := by decide +kernel
theorem dX5_begin_8 : decode cX5_begin 8 = .ok (.aload_n 0, 1) := by decide +kernel
theorem dX5_begin_9 : decode cX5_begin 9 = .ok (.getfield 9, 3) := by decide +kernel
theorem dX5_begin_12 : decode cX5_begin 12 = .ok (.iload_n 2, 1) := by decide +kernel
theorem dX5_begin_13 : decode cX5_begin 13 = .ok (.aload_n 1, 1) := by decide +kernel
theorem dX5_begin_14 : decode cX5_begin 14 = .ok (.getfield 49, 3) := by decide +kernel
theorem dX5_begin_17 : decode cX5_begin 17 = .ok (.iload_n 2, 1) := by decide +kernel
theorem dX5_begin_18 : decode cX5_begin 18 = .ok (.iaload, 1) := by decide +kernel
theorem dX5_begin_19 : decode cX5_begin 19 = .ok (.invokestatic 53, 3) := by decide +kernel
theorem dX5_begin_22 : decode cX5_begin 22 = .ok (.fastore, 1) := by decide +kernel
theorem dX5_begin_23 : decode cX5_begin 23 = .ok (.iinc 2 1, 3) := by decide +kernel
theorem dX5_begin_26 : decode cX5_begin 26 = .ok (.goto (-24), 3) := by decide +kernel
theorem dX5_begin_29 : decode cX5_begin 29 = .ok (.return_, 1) := by decide +kernel
theorem dX5_step_0 : decode cX5_step 0 = .ok (.aload_n 1, 1) := by decide +kernel
theorem dX5_step_1 : decode cX5_step 1 = .ok (.getfield 33, 3) := by decide +kernel
theorem dX5_step_4 : decode cX5_step 4 = .ok (.iconst 2, 1) := by decide +kernel
theorem dX5_step_5 : decode cX5_step 5 = .ok (.aload_n 1, 1) := by decide +kernel
theorem dX5_step_6 : decode cX5_step 6 = .ok (.getfield 59, 3) := by decide +kernel
theorem dX5_step_9 : decode cX5_step 9 = .ok (.imul, 1) := by decide +kernel
theorem dX5_step_10 : decode cX5_step 10 = .ok (.isub, 1) := by decide +kernel
theorem dX5_step_11 : decode cX5_step 11 = .ok (.istore_n 3, 1) := by decide +kernel
theorem dX5_step_12 : decode cX5_step 12 = .ok (.iconst 0, 1) := by decide +kernel
theorem dX5_step_13 : decode cX5_step 13 = .ok (.istore 4, 2) := by decide +kernel
theorem dX5_step_15 : decode cX5_step 15 = .ok (.iload 4, 2) := by decide +kernel
theorem dX5_step_17 : decode cX5_step 17 = .ok (.aload_n 1, 1) := by decide +kernel
theorem dX5_step_18 : decode cX5_step 18 = .ok (.getfield 33, 3) := by decide +kernel
theorem dX5_step_21 : decode cX5_step 21 = .ok (.if_icmp .ge 64, 3) := by decide +kernel
theorem dX5_step_24 : decode cX5_step 24 = .ok (.iload_n 3, 1) := by decide +kernel
theorem dX5_step_25 : decode cX5_step 25 = .ok (.iconst 1, 1) := by decide +kernel
theorem dX5_step_26 : decode cX5_step 26 = .ok (.if_icmp .lt 15, 3) := by decide +kernel
theorem dX5_step_29 : decode cX5_step 29 = .ok (.aload_n 1, 1) := by decide +kernel
theorem dX5_step_30 : decode cX5_step 30 = .ok (.getfield 39, 3) := by decide +kernel
theorem dX5_step_33 : decode cX5_step 33 = .ok (.iload 4, 2) := by decide +kernel
theorem dX5_step_35 : decode cX5_step 35 = .ok (.invokevirtual 43, 3) := by decide +kernel
theorem dX5_step_38 : decode cX5_step 38 = .ok (.ifCond .eq 7, 3) := by decide +kernel
theorem dX5_step_41 : decode cX5_step 41 = .ok (.iconst 1, 1) := by decide +kernel
theorem dX5_step_42 : decode cX5_step 42 = .ok (.goto 4, 3) := by decide +kernel
theorem dX5_step_45 : decode cX5_step 45 = .ok (.iconst 0, 1) := by decide +kernel
theorem dX5_step_46 : decode cX5_step 46 = .ok (.istore 5, 2) := by decide +kernel
theorem dX5_step_48 : decode cX5_step 48 = .ok (.aload_n 0, 1) := by decide +kernel
theorem dX5_step_49 : decode cX5_step 49 = .ok (.getfield 15, 3) := by decide +kernel
theorem dX5_step_52 : decode cX5_step 52 = .ok (.iload 4, 2) := by decide +kernel
theorem dX5_step_54 : decode cX5_step 54 = .ok (.iload 5, 2) := by decide +kernel
theorem dX5_step_56 : decode cX5_step 56 = .ok (.ifCond .eq 13, 3) := by decide +kernel
theorem dX5_step_59 : decode cX5_step 59 = .ok (.aload_n 0, 1) := by decide +kernel
theorem dX5_step_60 : decode cX5_step 60 = .ok (.getfield 9, 3) := by decide +kernel
theorem dX5_step_63 : decode cX5_step 63 = .ok (.iload 4, 2) := by decide +kernel
theorem dX5_step_65 : decode cX5_step 65 = .ok (.faload, 1) := by decide +kernel
theorem dX5_step_66 : decode cX5_step 66 = .ok (.goto 12, 3) := by decide +kernel
theorem dX5_step_69 : decode cX5_step 69 = .ok (.aload_n 0, 1) := by decide +kernel
theorem dX5_step_70 : decode cX5_step 70 = .ok (.aload_n 1, 1) := by decide +kernel
theorem dX5_step_71 : decode cX5_step 71 = .ok (.iload 4, 2) := by decide +kernel
theorem dX5_step_73 : decode cX5_step 73 = .ok (.iload_n 3, 1) := by decide +kernel
theorem dX5_step_74 : decode cX5_step 74 = .ok (.iload_n 2, 1) := by decide +kernel
theorem dX5_step_75 : decode cX5_step 75 = .ok (.invokevirtual 62, 3) := by decide +kernel
theorem dX5_step_78 : decode cX5_step 78 = .ok (.fastore, 1) := by decide +kernel
theorem dX5_step_79 : decode cX5_step 79 = .ok (.iinc 4 1, 3) := by decide +kernel
theorem dX5_step_82 : decode cX5_step 82 = .ok (.goto (-67), 3) := by decide +kernel
theorem dX5_step_85 : decode cX5_step 85 = .ok (.iconst 0, 1) := by decide +kernel
theorem dX5_step_86 : decode cX5_step 86 = .ok (.istore 4, 2) := by decide +kernel
theorem dX5_step_88 : decode cX5_step 88 = .ok (.iload 4, 2) := by decide +kernel
theorem dX5_step_90 : decode cX5_step 90 = .ok (.aload_n 1, 1) := by decide +kernel
theorem dX5_step_91 : decode cX5_step 91 = .ok (.getfield 33, 3) := by decide +kernel
theorem dX5_step_94 : decode cX5_step 94 = .ok (.if_icmp .ge 23, 3) := by decide +kernel
theorem dX5_step_97 : decode cX5_step 97 = .ok (.aload_n 0, 1) := by decide +kernel
theorem dX5_step_98 : decode cX5_step 98 = .ok (.getfield 9, 3) := by decide +kernel
theorem dX5_step_101 : decode cX5_step 101 = .ok (.iload 4, 2) := by decide +kernel
theorem dX5_step_103 : decode cX5_step 103 = .ok (.aload_n 0, 1) := by decide +kernel
theorem dX5_step_104 : decode cX5_step 104 = .ok (.getfield 15, 3) := by decide +kernel
theorem dX5_step_107 : decode cX5_step 107 = .ok (.iload 4, 2) := by decide +kernel
theorem dX5_step_109 : decode cX5_step 109 = .ok (.faload, 1) := by decide +kernel
theorem dX5_step_110 : decode cX5_step 110 = .ok (.fastore, 1) := by decide +kernel
theorem dX5_step_111 : decode cX5_step 111 = .ok (.iinc 4 1, 3) := by decide +kernel
theorem dX5_step_114 : decode cX5_step 114 = .ok (.goto (-26), 3) := by decide +kernel
theorem dX5_step_117 : decode cX5_step 117 = .ok (.return_, 1) := by decide +kernel
theorem dX5_moved_0 : decode cX5_moved 0 = .ok (.iconst 0, 1) := by decide +kernel
theorem dX5_moved_1 : decode cX5_moved 1 = .ok (.istore 5, 2) := by decide +kernel
theorem dX5_moved_3 : decode cX5_moved 3 = .ok (.iload 5, 2) := by decide +kernel
theorem dX5_moved_5 : decode cX5_moved 5 = .ok (.aload_n 1, 1) := by decide +kernel
theorem dX5_moved_6 : decode cX5_moved 6 = .ok (.getfield 33, 3) := by decide +kernel
theorem dX5_moved_9 : decode cX5_moved 9 = .ok (.if_icmp .ge 23, 3) := by decide +kernel
theorem dX5_moved_12 : decode cX5_moved 12 = .ok (.aload_n 0, 1) := by decide +kernel
theorem dX5_moved_13 : decode cX5_moved 13 = .ok (.iload 5, 2) := by decide +kernel
theorem dX5_moved_15 : decode cX5_moved 15 = .ok (.aload_n 0, 1) := by decide +kernel
theorem dX5_moved_16 : decode cX5_moved 16 = .ok (.aload_n 1, 1) := by decide +kernel
theorem dX5_moved_17 : decode cX5_moved 17 = .ok (.iload_n 2, 1) := by decide +kernel
theorem dX5_moved_18 : decode cX5_moved 18 = .ok (.iload 5, 2) := by decide +kernel
theorem dX5_moved_20 : decode cX5_moved 20 = .ok (.invokevirtual 66, 3) := by decide +kernel
theorem dX5_moved_23 : decode cX5_moved 23 = .ok (.invokevirtual 70, 3) := by decide +kernel
theorem dX5_moved_26 : decode cX5_moved 26 = .ok (.iinc 5 1, 3) := by decide +kernel
theorem dX5_moved_29 : decode cX5_moved 29 = .ok (.goto (-26), 3) := by decide +kernel
theorem dX5_moved_32 : decode cX5_moved 32 = .ok (.aload_n 1, 1) := by decide +kernel
theorem dX5_moved_33 : decode cX5_moved 33 = .ok (.getfield 59, 3) := by decide +kernel
theorem dX5_moved_36 : decode cX5_moved 36 = .ok (.istore 5, 2) := by decide +kernel
theorem dX5_moved_38 : decode cX5_moved 38 = .ok (.iload 5, 2) := by decide +kernel
theorem dX5_moved_40 : decode cX5_moved 40 = .ok (.iload_n 3, 1) := by decide +kernel
theorem dX5_moved_41 : decode cX5_moved 41 = .ok (.iadd, 1) := by decide +kernel
theorem dX5_moved_42 : decode cX5_moved 42 = .ok (.iconst 1, 1) := by decide +kernel
theorem dX5_moved_43 : decode cX5_moved 43 = .ok (.isub, 1) := by decide +kernel
theorem dX5_moved_44 : decode cX5_moved 44 = .ok (.istore 6, 2) := by decide +kernel
theorem dX5_moved_46 : decode cX5_moved 46 = .ok (.iload 5, 2) := by decide +kernel
theorem dX5_moved_48 : decode cX5_moved 48 = .ok (.ifCond .lt 17, 3) := by decide +kernel
theorem dX5_moved_51 : decode cX5_moved 51 = .ok (.iload 6, 2) := by decide +kernel
theorem dX5_moved_53 : decode cX5_moved 53 = .ok (.iload 5, 2) := by decide +kernel
theorem dX5_moved_55 : decode cX5_moved 55 = .ok (.if_icmp .lt 10, 3) := by decide +kernel
theorem dX5_moved_58 : decode cX5_moved 58 = .ok (.iload 6, 2) := by decide +kernel
theorem dX5_moved_60 : decode cX5_moved 60 = .ok (.bipush 7, 2) := by decide +kernel
theorem dX5_moved_62 : decode cX5_moved 62 = .ok (.if_icmp .lt 10, 3) := by decide +kernel
theorem dX5_moved_65 : decode cX5_moved 65 = .ok (.aload_n 0, 1) := by decide +kernel
theorem dX5_moved_66 : decode cX5_moved 66 = .ok (.getfield 9, 3) := by decide +kernel
theorem dX5_moved_69 : decode cX5_moved 69 = .ok (.iload_n 2, 1) := by decide +kernel
theorem dX5_moved_70 : decode cX5_moved 70 = .ok (.faload, 1) := by decide +kernel
theorem dX5_moved_71 : decode cX5_moved 71 = .ok (.freturn, 1) := by decide +kernel
theorem dX5_moved_72 : decode cX5_moved 72 = .ok (.iload 4, 2) := by decide +kernel
theorem dX5_moved_74 : decode cX5_moved 74 = .ok (.iconst 1, 1) := by decide +kernel
theorem dX5_moved_75 : decode cX5_moved 75 = .ok (.if_icmp .ne 21, 3) := by decide +kernel
theorem dX5_moved_78 : decode cX5_moved 78 = .ok (.aload_n 0, 1) := by decide +kernel
theorem dX5_moved_79 : decode cX5_moved 79 = .ok (.getfield 18, 3) := by decide +kernel
theorem dX5_moved_82 : decode cX5_moved 82 = .ok (.iload 5, 2) := by decide +kernel
theorem dX5_moved_84 : decode cX5_moved 84 = .ok (.faload, 1) := by decide +kernel
theorem dX5_moved_85 : decode cX5_moved 85 = .ok (.aload_n 0, 1) := by decide +kernel
theorem dX5_moved_86 : decode cX5_moved 86 = .ok (.getfield 18, 3) := by decide +kernel
theorem dX5_moved_89 : decode cX5_moved 89 = .ok (.iload 6, 2) := by decide +kernel
theorem dX5_moved_91 : decode cX5_moved 91 = .ok (.faload, 1) := by decide +kernel
theorem dX5_moved_92 : decode cX5_moved 92 = .ok (.fadd, 1) := by decide +kernel
theorem dX5_moved_93 : decode cX5_moved 93 = .ok (.fconst 2, 1) := by decide +kernel
theorem dX5_moved_94 : decode cX5_moved 94 = .ok (.fdiv, 1) := by decide +kernel
theorem dX5_moved_95 : decode cX5_moved 95 = .ok (.freturn, 1) := by decide +kernel
theorem dX5_moved_96 : decode cX5_moved 96 = .ok (.aload_n 0, 1) := by decide +kernel
theorem dX5_moved_97 : decode cX5_moved 97 = .ok (.getfield 18, 3) := by decide +kernel
theorem dX5_moved_100 : decode cX5_moved 100 = .ok (.iload 5, 2) := by decide +kernel
theorem dX5_moved_102 : decode cX5_moved 102 = .ok (.faload, 1) := by decide +kernel
theorem dX5_moved_103 : decode cX5_moved 103 = .ok (.fstore 7, 2) := by decide +kernel
theorem dX5_moved_105 : decode cX5_moved 105 = .ok (.iload 5, 2) := by decide +kernel
theorem dX5_moved_107 : decode cX5_moved 107 = .ok (.iconst 1, 1) := by decide +kernel
theorem dX5_moved_108 : decode cX5_moved 108 = .ok (.iadd, 1) := by decide +kernel
theorem dX5_moved_109 : decode cX5_moved 109 = .ok (.istore 8, 2) := by decide +kernel
theorem dX5_moved_111 : decode cX5_moved 111 = .ok (.iload 8, 2) := by decide +kernel
theorem dX5_moved_113 : decode cX5_moved 113 = .ok (.iload 6, 2) := by decide +kernel
theorem dX5_moved_115 : decode cX5_moved 115 = .ok (.if_icmp .gt 21, 3) := by decide +kernel
theorem dX5_moved_118 : decode cX5_moved 118 = .ok (.fload 7, 2) := by decide +kernel
theorem dX5_moved_120 : decode cX5_moved 120 = .ok (.aload_n 0, 1) := by decide +kernel
theorem dX5_moved_121 : decode cX5_moved 121 = .ok (.getfield 18, 3) := by decide +kernel
theorem dX5_moved_124 : decode cX5_moved 124 = .ok (.iload 8, 2) := by decide +kernel
theorem dX5_moved_126 : decode cX5_moved 126 = .ok (.faload, 1) := by decide +kernel
theorem dX5_moved_127 : decode cX5_moved 127 = .ok (.fadd, 1) := by decide +kernel
theorem dX5_moved_128 : decode cX5_moved 128 = .ok (.fstore 7, 2) := by decide +kernel
theorem dX5_moved_130 : decode cX5_moved 130 = .ok (.iinc 8 1, 3) := by decide +kernel
theorem dX5_moved_133 : decode cX5_moved 133 = .ok (.goto (-22), 3) := by decide +kernel
theorem dX5_moved_136 : decode cX5_moved 136 = .ok (.fload 7, 2) := by decide +kernel
theorem dX5_moved_138 : decode cX5_moved 138 = .ok (.iload_n 3, 1) := by decide +kernel
theorem dX5_moved_139 : decode cX5_moved 139 = .ok (.i2f, 1) := by decide +kernel
theorem dX5_moved_140 : decode cX5_moved 140 = .ok (.fdiv, 1) := by decide +kernel
theorem dX5_moved_141 : decode cX5_moved 141 = .ok (.freturn, 1) := by decide +kernel
theorem dX5_hears_0 : decode cX5_hears 0 = .ok (.aload_n 1, 1) := by decide +kernel
theorem dX5_hears_1 : decode cX5_hears 1 = .ok (.getfield 39, 3) := by decide +kernel
theorem dX5_hears_4 : decode cX5_hears 4 = .ok (.iload_n 3, 1) := by decide +kernel
theorem dX5_hears_5 : decode cX5_hears 5 = .ok (.invokevirtual 43, 3) := by decide +kernel
theorem dX5_hears_8 : decode cX5_hears 8 = .ok (.ifCond .ne 10, 3) := by decide +kernel
theorem dX5_hears_11 : decode cX5_hears 11 = .ok (.aload_n 0, 1) := by decide +kernel
theorem dX5_hears_12 : decode cX5_hears 12 = .ok (.getfield 9, 3) := by decide +kernel
theorem dX5_hears_15 : decode cX5_hears 15 = .ok (.iload_n 3, 1) := by decide +kernel
theorem dX5_hears_16 : decode cX5_hears 16 = .ok (.faload, 1) := by decide +kernel
theorem dX5_hears_17 : decode cX5_hears 17 = .ok (.freturn, 1) := by decide +kernel
theorem dX5_hears_18 : decode cX5_hears 18 = .ok (.aload_n 1, 1) := by decide +kernel
theorem dX5_hears_19 : decode cX5_hears 19 = .ok (.getfield 39, 3) := by decide +kernel
theorem dX5_hears_22 : decode cX5_hears 22 = .ok (.iload_n 3, 1) := by decide +kernel
theorem dX5_hears_23 : decode cX5_hears 23 = .ok (.iconst 1, 1) := by decide +kernel
theorem dX5_hears_24 : decode cX5_hears 24 = .ok (.iload_n 2, 1) := by decide +kernel
theorem dX5_hears_25 : decode cX5_hears 25 = .ok (.iload_n 3, 1) := by decide +kernel
theorem dX5_hears_26 : decode cX5_hears 26 = .ok (.aload_n 1, 1) := by decide +kernel
theorem dX5_hears_27 : decode cX5_hears 27 = .ok (.getfield 49, 3) := by decide +kernel
theorem dX5_hears_30 : decode cX5_hears 30 = .ok (.iload_n 3, 1) := by decide +kernel
theorem dX5_hears_31 : decode cX5_hears 31 = .ok (.iaload, 1) := by decide +kernel
theorem dX5_hears_32 : decode cX5_hears 32 = .ok (.invokevirtual 74, 3) := by decide +kernel
theorem dX5_hears_35 : decode cX5_hears 35 = .ok (.lstore 4, 2) := by decide +kernel
theorem dX5_hears_37 : decode cX5_hears 37 = .ok (.lload 4, 2) := by decide +kernel
theorem dX5_hears_39 : decode cX5_hears 39 = .ok (.lconst 0, 1) := by decide +kernel
theorem dX5_hears_40 : decode cX5_hears 40 = .ok (.lcmp, 1) := by decide +kernel
theorem dX5_hears_41 : decode cX5_hears 41 = .ok (.ifCond .ge 12, 3) := by decide +kernel
theorem dX5_hears_44 : decode cX5_hears 44 = .ok (.aload_n 0, 1) := by decide +kernel
theorem dX5_hears_45 : decode cX5_hears 45 = .ok (.getfield 9, 3) := by decide +kernel
theorem dX5_hears_48 : decode cX5_hears 48 = .ok (.iload_n 2, 1) := by decide +kernel
theorem dX5_hears_49 : decode cX5_hears 49 = .ok (.faload, 1) := by decide +kernel
theorem dX5_hears_50 : decode cX5_hears 50 = .ok (.goto 9, 3) := by decide +kernel
theorem dX5_hears_53 : decode cX5_hears 53 = .ok (.lload 4, 2) := by decide +kernel
theorem dX5_hears_55 : decode cX5_hears 55 = .ok (.l2i, 1) := by decide +kernel
theorem dX5_hears_56 : decode cX5_hears 56 = .ok (.invokestatic 53, 3) := by decide +kernel
theorem dX5_hears_59 : decode cX5_hears 59 = .ok (.freturn, 1) := by decide +kernel
theorem dX5_insert_0 : decode cX5_insert 0 = .ok (.iload_n 1, 1) := by decide +kernel
theorem dX5_insert_1 : decode cX5_insert 1 = .ok (.istore_n 3, 1) := by decide +kernel
theorem dX5_insert_2 : decode cX5_insert 2 = .ok (.iload_n 1, 1) := by decide +kernel
theorem dX5_insert_3 : decode cX5_insert 3 = .ok (.istore 4, 2) := by decide +kernel
theorem dX5_insert_5 : decode cX5_insert 5 = .ok (.iload 4, 2) := by decide +kernel
theorem dX5_insert_7 : decode cX5_insert 7 = .ok (.ifCond .le 44, 3) := by decide +kernel
theorem dX5_insert_10 : decode cX5_insert 10 = .ok (.aload_n 0, 1) := by decide +kernel
theorem dX5_insert_11 : decode cX5_insert 11 = .ok (.getfield 18, 3) := by decide +kernel
theorem dX5_insert_14 : decode cX5_insert 14 = .ok (.iload 4, 2) := by decide +kernel
theorem dX5_insert_16 : decode cX5_insert 16 = .ok (.iconst 1, 1) := by decide +kernel
theorem dX5_insert_17 : decode cX5_insert 17 = .ok (.isub, 1) := by decide +kernel
theorem dX5_insert_18 : decode cX5_insert 18 = .ok (.faload, 1) := by decide +kernel
theorem dX5_insert_19 : decode cX5_insert 19 = .ok (.fload_n 2, 1) := by decide +kernel
theorem dX5_insert_20 : decode cX5_insert 20 = .ok (.fcmp .l, 1) := by decide +kernel
theorem dX5_insert_21 : decode cX5_insert 21 = .ok (.ifCond .le 30, 3) := by decide +kernel
theorem dX5_insert_24 : decode cX5_insert 24 = .ok (.aload_n 0, 1) := by decide +kernel
theorem dX5_insert_25 : decode cX5_insert 25 = .ok (.getfield 18, 3) := by decide +kernel
theorem dX5_insert_28 : decode cX5_insert 28 = .ok (.iload 4, 2) := by decide +kernel
theorem dX5_insert_30 : decode cX5_insert 30 = .ok (.aload_n 0, 1) := by decide +kernel
theorem dX5_insert_31 : decode cX5_insert 31 = .ok (.getfield 18, 3) := by decide +kernel
theorem dX5_insert_34 : decode cX5_insert 34 = .ok (.iload 4, 2) := by decide +kernel
theorem dX5_insert_36 : decode cX5_insert 36 = .ok (.iconst 1, 1) := by decide +kernel
theorem dX5_insert_37 : decode cX5_insert 37 = .ok (.isub, 1) := by decide +kernel
theorem dX5_insert_38 : decode cX5_insert 38 = .ok (.faload, 1) := by decide +kernel
theorem dX5_insert_39 : decode cX5_insert 39 = .ok (.fastore, 1) := by decide +kernel
theorem dX5_insert_40 : decode cX5_insert 40 = .ok (.iload 4, 2) := by decide +kernel
theorem dX5_insert_42 : decode cX5_insert 42 = .ok (.iconst 1, 1) := by decide +kernel
theorem dX5_insert_43 : decode cX5_insert 43 = .ok (.isub, 1) := by decide +kernel
theorem dX5_insert_44 : decode cX5_insert 44 = .ok (.istore_n 3, 1) := by decide +kernel
theorem dX5_insert_45 : decode cX5_insert 45 = .ok (.iinc 4 (-1), 3) := by decide +kernel
theorem dX5_insert_48 : decode cX5_insert 48 = .ok (.goto (-43), 3) := by decide +kernel
theorem dX5_insert_51 : decode cX5_insert 51 = .ok (.aload_n 0, 1) := by decide +kernel
theorem dX5_insert_52 : decode cX5_insert 52 = .ok (.getfield 18, 3) := by decide +kernel
theorem dX5_insert_55 : decode cX5_insert 55 = .ok (.iload_n 3, 1) := by decide +kernel
theorem dX5_insert_56 : decode cX5_insert 56 = .ok (.fload_n 2, 1) := by decide +kernel
theorem dX5_insert_57 : decode cX5_insert 57 = .ok (.fastore, 1) := by decide +kernel
theorem dX5_insert_58 : decode cX5_insert 58 = .ok (.return_, 1) := by decide +kernel
theorem dX6_init_0 : decode cX6_init 0 = .ok (.aload_n 0, 1) := by decide +kernel
theorem dX6_init_1 : decode cX6_init 1 = .ok (.invokespecial 3, 3) := by decide +kernel
theorem dX6_init_4 : decode cX6_init 4 = .ok (.aload_n 0, 1) := by decide +kernel
theorem dX6_init_5 : decode cX6_init 5 = .ok (.iconst (-1), 1) := by decide +kernel
theorem dX6_init_6 : decode cX6_init 6 = .ok (.putfield 9, 3) := by decide +kernel
theorem dX6_init_9 : decode cX6_init 9 = .ok (.aload_n 0, 1) := by decide +kernel
theorem dX6_init_10 : decode cX6_init 10 = .ok (.bipush 7, 2) := by decide +kernel
theorem dX6_init_12 : decode cX6_init 12 = .ok (.newarray .int, 2) := by decide +kernel
theorem dX6_init_14 : decode cX6_init 14 = .ok (.putfield 15, 3) := by decide +kernel
theorem dX6_init_17 : decode cX6_init 17 = .ok (.aload_n 0, 1) := by decide +kernel
theorem dX6_init_18 : decode cX6_init 18 = .ok (.bipush 7, 2) := by decide +kernel
theorem dX6_init_20 : decode cX6_init 20 = .ok (.newarray .int, 2) := by decide +kernel
theorem dX6_init_22 : decode cX6_init 22 = .ok (.putfield 19, 3) := by decide +kernel
theorem dX6_init_25 : decode cX6_init 25 = .ok (.aload_n 0, 1) := by decide +kernel
theorem dX6_init_26 : decode cX6_init 26 = .ok (.bipush 7, 2) := by decide +kernel
theorem dX6_init_28 : decode cX6_init 28 = .ok (.newarray .int, 2) := by decide +kernel
theorem dX6_init_30 : decode cX6_init 30 = .ok (.putfield 22, 3) := by decide +kernel
theorem dX6_init_33 : decode cX6_init 33 = .ok (.aload_n 0, 1) := by decide +kernel
theorem dX6_init_34 : decode cX6_init 34 = .ok (.bipush 7, 2) := by decide +kernel
theorem dX6_init_36 : decode cX6_init 36 = .ok (.newarray .int, 2) := by decide +kernel
theorem dX6_init_38 : decode cX6_init 38 = .ok (.putfield 25, 3) := by decide +kernel
theorem dX6_init_41 : decode cX6_init 41 = .ok (.aload_n 0, 1) := by decide +kernel
theorem dX6_init_42 : decode cX6_init 42 = .ok (.sipush 399, 3) := by decide +kernel
theorem dX6_init_45 : decode cX6_init 45 = .ok (.newarray .int, 2) := by decide +kernel
theorem dX6_init_47 : decode cX6_init 47 = .ok (.putfield 28, 3) := by decide +kernel
theorem dX6_init_50 : decode cX6_init 50 = .ok (.aload_n 0, 1) := by decide +kernel
theorem dX6_init_51 : decode cX6_init 51 = .ok (.sipush 399, 3) := by decide +kernel
theorem dX6_init_54 : decode cX6_init 54 = .ok (.newarray .boolean, 2) := by decide +kernel
theorem dX6_init_56 : decode cX6_init 56 = .ok (.putfield 31, 3) := by decide +kernel
theorem dX6_init_59 : decode cX6_init 59 = .ok (.aload_n 0, 1) := by decide +kernel
theorem dX6_init_60 : decode cX6_init 60 = .ok (.sipush 399, 3) := by decide +kernel
theorem dX6_init_63 : decode cX6_init 63 = .ok (.newarray .int, 2) := by decide +kernel
theorem dX6_init_65 : decode cX6_init 65 = .ok (.putfield 35, 3) := by decide +kernel
theorem dX6_init_68 : decode cX6_init 68 = .ok (.aload_n 0, 1) := by decide +kernel
theorem dX6_init_69 : decode cX6_init 69 = .ok (.bipush 7, 2) := by decide +kernel
theorem dX6_init_71 : decode cX6_init 71 = .ok (.newarray .int, 2) := by decide +kernel
theorem dX6_init_73 : decode cX6_init 73 = .ok (.putfield 38, 3) := by decide +kernel
theorem dX6_init_76 : decode cX6_init 76 = .ok (.aload_n 0, 1) := by decide +kernel
theorem dX6_init_77 : decode cX6_init 77 = .ok (.bipush 7, 2) := by decide +kernel
theorem dX6_init_79 : decode cX6_init 79 = .ok (.newarray .int, 2) := by decide +kernel
theorem dX6_init_81 : decode cX6_init 81 = .ok (.putfield 41, 3) := by decide +kernel
theorem dX6_init_84 : decode cX6_init 84 = .ok (.aload_n 0, 1) := by decide +kernel
theorem dX6_init_85 : decode cX6_init 85 = .ok (.bipush 57, 2) := by decide +kernel
theorem dX6_init_87 : decode cX6_init 87 = .ok (.newarray .int, 2) := by decide +kernel
theorem dX6_init_89 : decode cX6_init 89 = .ok (.putfield 44, 3) := by decide +kernel
theorem dX6_init_92 : decode cX6_init 92 = .ok (.aload_n 0, 1) := by decide +kernel
theorem dX6_init_93 : decode cX6_init 93 = .ok (.bipush 57, 2) := by decide +kernel
theorem dX6_init_95 : decode cX6_init 95 = .ok (.newarray .int, 2) := by decide +kernel
theorem dX6_init_97 : decode cX6_init 97 = .ok (.putfield 47, 3) := by decide +kernel
theorem dX6_init_100 : decode cX6_init 100 = .ok (.aload_n 0, 1) := by decide +kernel
theorem dX6_init_101 : decode cX6_init 101 = .ok (.bipush 7, 2) := by decide +kernel
theorem dX6_init_103 : decode cX6_init 103 = .ok (.newarray .int, 2) := by decide +kernel
theorem dX6_init_105 : decode cX6_init 105 = .ok (.putfield 50, 3) := by decide +kernel
theorem dX6_init_108 : decode cX6_init 108 = .ok (.return_, 1) := by decide +kernel
theorem dX6_forget_0 : decode cX6_forget 0 = .ok (.aload_n 0, 1) := by decide +kernel
theorem dX6_forget_1 : decode cX6_forget 1 = .ok (.iconst (-1), 1) := by decide +kernel
theorem dX6_forget_2 : decode cX6_forget 2 = .ok (.putfield 9, 3) := by decide +kernel
theorem dX6_forget_5 : decode cX6_forget 5 = .ok (.aload_n 0, 1) := by decide +kernel
theorem dX6_forget_6 : decode cX6_forget 6 = .ok (.iconst 0, 1) := by decide +kernel
theorem dX6_forget_7 : decode cX6_forget 7 = .ok (.putfield 53, 3) := by decide +kernel
theorem dX6_forget_10 : decode cX6_forget 10 = .ok (.aload_n 0, 1) := by decide +kernel
theorem dX6_forget_11 : decode cX6_forget 11 = .ok (.iconst 0, 1) := by decide +kernel
theorem dX6_forget_12 : decode cX6_forget 12 = .ok (.putfield 56, 3) := by decide +kernel
theorem dX6_forget_15 : decode cX6_forget 15 = .ok (.iconst 0, 1) := by decide +kernel
theorem dX6_forget_16 : decode cX6_forget 16 = .ok (.istore_n 1, 1) := by decide +kernel
theorem dX6_forget_17 : decode cX6_forget 17 = .ok (.iload_n 1, 1) := by decide +kernel
theorem dX6_forget_18 : decode cX6_forget 18 = .ok (.bipush 7, 2) := by decide +kernel
theorem dX6_forget_20 : decode cX6_forget 20 = .ok (.if_icmp .ge 51, 3) := by decide +kernel
theorem dX6_forget_23 : decode cX6_forget 23 = .ok (.aload_n 0, 1) := by decide +kernel
theorem dX6_forget_24 : decode cX6_forget 24 = .ok (.getfield 15, 3) := by decide +kernel
theorem dX6_forget_27 : decode cX6_forget 27 = .ok (.iload_n 1, 1) := by decide +kernel
theorem dX6_forget_28 : decode cX6_forget 28 = .ok (.iconst 0, 1) := by decide +kernel
theorem dX6_forget_29 : decode cX6_forget 29 = .ok (.iastore, 1) := by decide +kernel
theorem dX6_forget_30 : decode cX6_forget 30 = .ok (.aload_n 0, 1) := by decide +kernel
theorem dX6_forget_31 : decode cX6_forget 31 = .ok (.getfield 38, 3) := by decide +kernel
theorem dX6_forget_34 : decode cX6_forget 34 = .ok (.iload_n 1, 1) := by decide +kernel
theorem dX6_forget_35 : decode cX6_forget 35 = .ok (.iconst 0, 1) := by decide +kernel
theorem dX6_forget_36 : decode cX6_forget 36 = .ok (.iastore, 1) := by decide +kernel
theorem dX6_forget_37 : decode cX6_forget 37 = .ok (.aload_n 0, 1) := by decide +kernel
theorem dX6_forget_38 : decode cX6_forget 38 = .ok (.getfield 19, 3) := by decide +kernel
theorem dX6_forget_41 : decode cX6_forget 41 = .ok (.iload_n 1, 1) := by decide +kernel
theorem dX6_forget_42 : decode cX6_forget 42 = .ok (.iconst 0, 1) := by decide +kernel
theorem dX6_forget_43 : decode cX6_forget 43 = .ok (.iastore, 1) := by decide +kernel
theorem dX6_forget_44 : decode cX6_forget 44 = .ok (.aload_n 0, 1) := by decide +kernel
theorem dX6_forget_45 : decode cX6_forget 45 = .ok (.getfield 22, 3) := by decide +kernel
theorem dX6_forget_48 : decode cX6_forget 48 = .ok (.iload_n 1, 1) := by decide +kernel
theorem dX6_forget_49 : decode cX6_forget 49 = .ok (.iconst 0, 1) := by decide +kernel
theorem dX6_forget_50 : decode cX6_forget 50 = .ok (.iastore, 1) := by decide +kernel
theorem dX6_forget_51 : decode cX6_forget 51 = .ok (.aload_n 0, 1) := by decide +kernel
theorem dX6_forget_52 : decode cX6_forget 52 = .ok (.getfield 25, 3) := by decide +kernel
theorem dX6_forget_55 : decode cX6_forget 55 = .ok (.iload_n 1, 1) := by decide +kernel
theorem dX6_forget_56 : decode cX6_forget 56 = .ok (.iconst 0, 1) := by decide +kernel
theorem dX6_forget_57 : decode cX6_forget 57 = .ok (.iastore, 1) := by decide +kernel
theorem dX6_forget_58 : decode cX6_forget 58 = .ok (.aload_n 0, 1) := by decide +kernel
theorem dX6_forget_59 : decode cX6_forget 59 = .ok (.getfield 41, 3) := by decide +kernel
theorem dX6_forget_62 : decode cX6_forget 62 = .ok (.iload_n 1, 1) := by decide +kernel
theorem dX6_forget_63 : decode cX6_forget 63 = .ok (.iconst 0, 1) := by decide +kernel
theorem dX6_forget_64 : decode cX6_forget 64 = .ok (.iastore, 1) := by decide +kernel
theorem dX6_forget_65 : decode cX6_forget 65 = .ok (.iinc 1 1, 3) := by decide +kernel
theorem dX6_forget_68 : decode cX6_forget 68 = .ok (.goto (-51), 3) := by decide +kernel
theorem dX6_forget_71 : decode cX6_forget 71 = .ok (.return_, 1) := by decide +kernel
theorem dX6_play_0 : decode cX6_play 0 = .ok (.aload_n 0, 1) := by decide +kernel
theorem dX6_play_1 : decode cX6_play 1 = .ok (.invokevirtual 59, 3) := by decide +kernel
theorem dX6_play_4 : decode cX6_play 4 = .ok (.aload_n 0, 1) := by decide +kernel
theorem dX6_play_5 : decode cX6_play 5 = .ok (.iload_n 2, 1) := by decide +kernel
theorem dX6_play_6 : decode cX6_play 6 = .ok (.putfield 9, 3) := by decide +kernel
theorem dX6_play_9 : decode cX6_play 9 = .ok (.aload_n 0, 1) := by decide +kernel
theorem dX6_play_10 : decode cX6_play 10 = .ok (.aload_n 1, 1) := by decide +kernel
theorem dX6_play_11 : decode cX6_play 11 = .ok (.getfield 62, 3) := by decide +kernel
theorem dX6_play_14 : decode cX6_play 14 = .ok (.putfield 67, 3) := by decide +kernel
theorem dX6_play_17 : decode cX6_play 17 = .ok (.aload_n 0, 1) := by decide +kernel
theorem dX6_play_18 : decode cX6_play 18 = .ok (.aload_n 1, 1) := by decide +kernel
theorem dX6_play_19 : decode cX6_play 19 = .ok (.getfield 68, 3) := by decide +kernel
theorem dX6_play_22 : decode cX6_play 22 = .ok (.putfield 71, 3) := by decide +kernel
theorem dX6_play_25 : decode cX6_play 25 = .ok (.aload_n 0, 1) := by decide +kernel
theorem dX6_play_26 : decode cX6_play 26 = .ok (.aload_n 1, 1) := by decide +kernel
theorem dX6_play_27 : decode cX6_play 27 = .ok (.getfield 72, 3) := by decide +kernel
theorem dX6_play_30 : decode cX6_play 30 = .ok (.putfield 75, 3) := by decide +kernel
theorem dX6_play_33 : decode cX6_play 33 = .ok (.aload_n 0, 1) := by decide +kernel
theorem dX6_play_34 : decode cX6_play 34 = .ok (.aload_n 1, 1) := by decide +kernel
theorem dX6_play_35 : decode cX6_play 35 = .ok (.getfield 76, 3) := by decide +kernel
theorem dX6_play_38 : decode cX6_play 38 = .ok (.getfield 80, 3) := by decide +kernel
theorem dX6_play_41 : decode cX6_play 41 = .ok (.putfield 85, 3) := by decide +kernel
theorem dX6_play_44 : decode cX6_play 44 = .ok (.aload_n 0, 1) := by decide +kernel
theorem dX6_play_45 : decode cX6_play 45 = .ok (.aload_n 1, 1) := by decide +kernel
theorem dX6_play_46 : decode cX6_play 46 = .ok (.getfield 86, 3) := by decide +kernel
theorem dX6_play_49 : decode cX6_play 49 = .ok (.iload_n 2, 1) := by decide +kernel
theorem dX6_play_50 : decode cX6_play 50 = .ok (.iaload, 1) := by decide +kernel
theorem dX6_play_51 : decode cX6_play 51 = .ok (.putfield 89, 3) := by decide +kernel
theorem dX6_play_54 : decode cX6_play 54 = .ok (.aload_n 0, 1) := by decide +kernel
theorem dX6_play_55 : decode cX6_play 55 = .ok (.invokevirtual 92, 3) := by decide +kernel
theorem dX6_play_58 : decode cX6_play 58 = .ok (.aload_n 0, 1) := by decide +kernel
theorem dX6_play_59 : decode cX6_play 59 = .ok (.getfield 19, 3) := by decide +kernel
theorem dX6_play_62 : decode cX6_play 62 = .ok (.iload_n 2, 1) := by decide +kernel
theorem dX6_play_63 : decode cX6_play 63 = .ok (.iconst 1, 1) := by decide +kernel
theorem dX6_play_64 : decode cX6_play 64 = .ok (.iastore, 1) := by decide +kernel
theorem dX6_play_65 : decode cX6_play 65 = .ok (.aload_n 0, 1) := by decide +kernel
theorem dX6_play_66 : decode cX6_play 66 = .ok (.getfield 41, 3) := by decide +kernel
theorem dX6_play_69 : decode cX6_play 69 = .ok (.iload_n 2, 1) := by decide +kernel
theorem dX6_play_70 : decode cX6_play 70 = .ok (.aload_n 0, 1) := by decide +kernel
theorem dX6_play_71 : decode cX6_play 71 = .ok (.getfield 89, 3) := by decide +kernel
theorem dX6_play_74 : decode cX6_play 74 = .ok (.iastore, 1) := by decide +kernel
theorem dX6_play_75 : decode cX6_play 75 = .ok (.iconst 0, 1) := by decide +kernel
theorem dX6_play_76 : decode cX6_play 76 = .ok (.istore_n 3, 1) := by decide +kernel
theorem dX6_play_77 : decode cX6_play 77 = .ok (.iload_n 3, 1) := by decide +kernel
theorem dX6_play_78 : decode cX6_play 78 = .ok (.aload_n 0, 1) := by decide +kernel
theorem dX6_play_79 : decode cX6_play 79 = .ok (.getfield 67, 3) := by decide +kernel
theorem dX6_play_82 : decode cX6_play 82 = .ok (.if_icmp .ge 36, 3) := by decide +kernel
theorem dX6_play_85 : decode cX6_play 85 = .ok (.iload_n 3, 1) := by decide +kernel
theorem dX6_play_86 : decode cX6_play 86 = .ok (.iload_n 2, 1) := by decide +kernel
theorem dX6_play_87 : decode cX6_play 87 = .ok (.if_icmp .eq 25, 3) := by decide +kernel
theorem dX6_play_90 : decode cX6_play 90 = .ok (.aload_n 0, 1) := by decide +kernel
theorem dX6_play_91 : decode cX6_play 91 = .ok (.iload_n 3, 1) := by decide +kernel
theorem dX6_play_92 : decode cX6_play 92 = .ok (.iload_n 2, 1) := by decide +kernel
theorem dX6_play_93 : decode cX6_play 93 = .ok (.iconst 0, 1) := by decide +kernel
theorem dX6_play_94 : decode cX6_play 94 = .ok (.aload_n 1, 1) := by decide +kernel
theorem dX6_play_95 : decode cX6_play 95 = .ok (.getfield 76, 3) := by decide +kernel
theorem dX6_play_98 : decode cX6_play 98 = .ok (.iload_n 2, 1) := by decide +kernel
theorem dX6_play_99 : decode cX6_play 99 = .ok (.iconst 1, 1) := by decide +kernel
theorem dX6_play_100 : decode cX6_play 100 = .ok (.iload_n 3, 1) := by decide +kernel
theorem dX6_play_101 : decode cX6_play 101 = .ok (.iload_n 2, 1) := by decide +kernel
theorem dX6_play_102 : decode cX6_play 102 = .ok (.aload_n 0, 1) := by decide +kernel
theorem dX6_play_103 : decode cX6_play 103 = .ok (.getfield 89, 3) := by decide +kernel
theorem dX6_play_106 : decode cX6_play 106 = .ok (.invokevirtual 95, 3) := by decide +kernel
theorem dX6_play_109 : decode cX6_play 109 = .ok (.invokevirtual 98, 3) := by decide +kernel
theorem dX6_play_112 : decode cX6_play 112 = .ok (.iinc 3 1, 3) := by decide +kernel
theorem dX6_play_115 : decode cX6_play 115 = .ok (.goto (-38), 3) := by decide +kernel
theorem dX6_play_118 : decode cX6_play 118 = .ok (.aload_n 0, 1) := by decide +kernel
theorem dX6_play_119 : decode cX6_play 119 = .ok (.iconst 1, 1) := by decide +kernel
theorem dX6_play_120 : decode cX6_play 120 = .ok (.invokevirtual 102, 3) := by decide +kernel
theorem dX6_play_123 : decode cX6_play 123 = .ok (.iconst 2, 1) := by decide +kernel
theorem dX6_play_124 : decode cX6_play 124 = .ok (.istore_n 3, 1) := by decide +kernel
theorem dX6_play_125 : decode cX6_play 125 = .ok (.iload_n 3, 1) := by decide +kernel
theorem dX6_play_126 : decode cX6_play 126 = .ok (.aload_n 0, 1) := by decide +kernel
theorem dX6_play_127 : decode cX6_play 127 = .ok (.getfield 71, 3) := by decide +kernel
theorem dX6_play_130 : decode cX6_play 130 = .ok (.iconst 1, 1) := by decide +kernel
theorem dX6_play_131 : decode cX6_play 131 = .ok (.iadd, 1) := by decide +kernel
theorem dX6_play_132 : decode cX6_play 132 = .ok (.if_icmp .gt 23, 3) := by decide +kernel
theorem dX6_play_135 : decode cX6_play 135 = .ok (.aload_n 0, 1) := by decide +kernel
theorem dX6_play_136 : decode cX6_play 136 = .ok (.aload_n 1, 1) := by decide +kernel
theorem dX6_play_137 : decode cX6_play 137 = .ok (.getfield 76, 3) := by decide +kernel
theorem dX6_play_140 : decode cX6_play 140 = .ok (.iload_n 3, 1) := by decide +kernel
theorem dX6_play_141 : decode cX6_play 141 = .ok (.invokevirtual 106, 3) := by decide +kernel
theorem dX6_play_144 : decode cX6_play 144 = .ok (.aload_n 0, 1) := by decide +kernel
theorem dX6_play_145 : decode cX6_play 145 = .ok (.iload_n 3, 1) := by decide +kernel
theorem dX6_play_146 : decode cX6_play 146 = .ok (.invokevirtual 102, 3) := by decide +kernel
theorem dX6_play_149 : decode cX6_play 149 = .ok (.iinc 3 1, 3) := by decide +kernel
theorem dX6_play_152 : decode cX6_play 152 = .ok (.goto (-27), 3) := by decide +kernel
theorem dX6_play_155 : decode cX6_play 155 = .ok (.iconst 0, 1) := by decide +kernel
theorem dX6_play_156 : decode cX6_play 156 = .ok (.istore_n 3, 1) := by decide +kernel
theorem dX6_play_157 : decode cX6_play 157 = .ok (.iload_n 3, 1) := by decide +kernel
theorem dX6_play_158 : decode cX6_play 158 = .ok (.aload_n 0, 1) := by decide +kernel
theorem dX6_play_159 : decode cX6_play 159 = .ok (.getfield 67, 3) := by decide +kernel
theorem dX6_play_162 : decode cX6_play 162 = .ok (.if_icmp .ge 45, 3) := by decide +kernel
theorem dX6_play_165 : decode cX6_play 165 = .ok (.iload_n 3, 1) := by decide +kernel
theorem dX6_play_166 : decode cX6_play 166 = .ok (.iload_n 2, 1) := by decide +kernel
theorem dX6_play_167 : decode cX6_play 167 = .ok (.if_icmp .eq 34, 3) := by decide +kernel
theorem dX6_play_170 : decode cX6_play 170 = .ok (.aload_n 0, 1) := by decide +kernel
theorem dX6_play_171 : decode cX6_play 171 = .ok (.iload_n 3, 1) := by decide +kernel
theorem dX6_play_172 : decode cX6_play 172 = .ok (.aload_n 0, 1) := by decide +kernel
theorem dX6_play_173 : decode cX6_play 173 = .ok (.getfield 71, 3) := by decide +kernel
theorem dX6_play_176 : decode cX6_play 176 = .ok (.iconst 1, 1) := by decide +kernel
theorem dX6_play_177 : decode cX6_play 177 = .ok (.iadd, 1) := by decide +kernel
theorem dX6_play_178 : decode cX6_play 178 = .ok (.aload_n 0, 1) := by decide +kernel
theorem dX6_play_179 : decode cX6_play 179 = .ok (.getfield 35, 3) := by decide +kernel
theorem dX6_play_182 : decode cX6_play 182 = .ok (.iload_n 3, 1) := by decide +kernel
theorem dX6_play_183 : decode cX6_play 183 = .ok (.bipush 57, 2) := by decide +kernel
theorem dX6_play_185 : decode cX6_play 185 = .ok (.imul, 1) := by decide +kernel
theorem dX6_play_186 : decode cX6_play 186 = .ok (.invokevirtual 110, 3) := by decide +kernel
theorem dX6_play_189 : decode cX6_play 189 = .ok (.aload_n 0, 1) := by decide +kernel
theorem dX6_play_190 : decode cX6_play 190 = .ok (.getfield 41, 3) := by decide +kernel
theorem dX6_play_193 : decode cX6_play 193 = .ok (.iload_n 3, 1) := by decide +kernel
theorem dX6_play_194 : decode cX6_play 194 = .ok (.aload_n 0, 1) := by decide +kernel
theorem dX6_play_195 : decode cX6_play 195 = .ok (.iload_n 3, 1) := by decide +kernel
theorem dX6_play_196 : decode cX6_play 196 = .ok (.iconst 0, 1) := by decide +kernel
theorem dX6_play_197 : decode cX6_play 197 = .ok (.invokevirtual 114, 3) := by decide +kernel
theorem dX6_play_200 : decode cX6_play 200 = .ok (.iastore, 1) := by decide +kernel
theorem dX6_play_201 : decode cX6_play 201 = .ok (.iinc 3 1, 3) := by decide +kernel
theorem dX6_play_204 : decode cX6_play 204 = .ok (.goto (-47), 3) := by decide +kernel
theorem dX6_play_207 : decode cX6_play 207 = .ok (.return_, 1) := by decide +kernel
theorem dX6_decided_0 : decode cX6_decided 0 = .ok (.aload_n 0, 1) := by decide +kernel
theorem dX6_decided_1 : decode cX6_decided 1 = .ok (.getfield 41, 3) := by decide +kernel
theorem dX6_decided_4 : decode cX6_decided 4 = .ok (.iload_n 1, 1) := by decide +kernel
theorem dX6_decided_5 : decode cX6_decided 5 = .ok (.iaload, 1) := by decide +kernel
theorem dX6_decided_6 : decode cX6_decided 6 = .ok (.ireturn, 1) := by decide +kernel
theorem dX6_decidedBy_0 : decode cX6_decidedBy 0 = .ok (.aload_n 0, 1) := by decide +kernel
theorem dX6_decidedBy_1 : decode cX6_decidedBy 1 = .ok (.getfield 9, 3) := by decide +kernel
theorem dX6_decidedBy_4 : decode cX6_decidedBy 4 = .ok (.iconst (-1), 1) := by decide +kernel
theorem dX6_decidedBy_5 : decode cX6_decidedBy 5 = .ok (.if_icmp .eq 11, 3) := by decide +kernel
theorem dX6_decidedBy_8 : decode cX6_decidedBy 8 = .ok (.iload_n 1, 1) := by decide +kernel
theorem dX6_decidedBy_9 : decode cX6_decidedBy 9 = .ok (.aload_n 0, 1) := by decide +kernel
theorem dX6_decidedBy_10 : decode cX6_decidedBy 10 = .ok (.getfield 9, 3) := by decide +kernel
theorem dX6_decidedBy_13 : decode cX6_decidedBy 13 = .ok (.if_icmp .ne 10, 3) := by decide +kernel
theorem dX6_decidedBy_16 : decode cX6_decidedBy 16 = .ok (.aload_n 0, 1) := by decide +kernel
theorem dX6_decidedBy_17 : decode cX6_decidedBy 17 = .ok (.getfield 41, 3) := by decide +kernel
theorem dX6_decidedBy_20 : decode cX6_decidedBy 20 = .ok (.iload_n 1, 1) := by decide +kernel
theorem dX6_decidedBy_21 : decode cX6_decidedBy 21 = .ok (.iaload, 1) := by decide +kernel
theorem dX6_decidedBy_22 : decode cX6_decidedBy 22 = .ok (.ireturn, 1) := by decide +kernel
theorem dX6_decidedBy_23 : decode cX6_decidedBy 23 = .ok (.aload_n 0, 1) := by decide +kernel
theorem dX6_decidedBy_24 : decode cX6_decidedBy 24 = .ok (.iload_n 1, 1) := by decide +kernel
theorem dX6_decidedBy_25 : decode cX6_decidedBy 25 = .ok (.iload_n 2, 1) := by decide +kernel
theorem dX6_decidedBy_26 : decode cX6_decidedBy 26 = .ok (.aload_n 0, 1) := by decide +kernel
theorem dX6_decidedBy_27 : decode cX6_decidedBy 27 = .ok (.getfield 44, 3) := by decide +kernel
theorem dX6_decidedBy_30 : decode cX6_decidedBy 30 = .ok (.iconst 0, 1) := by decide +kernel
theorem dX6_decidedBy_31 : decode cX6_decidedBy 31 = .ok (.invokevirtual 110, 3) := by decide +kernel
theorem dX6_decidedBy_34 : decode cX6_decidedBy 34 = .ok (.aload_n 0, 1) := by decide +kernel
theorem dX6_decidedBy_35 : decode cX6_decidedBy 35 = .ok (.getfield 44, 3) := by decide +kernel
theorem dX6_decidedBy_38 : decode cX6_decidedBy 38 = .ok (.iconst 0, 1) := by decide +kernel
theorem dX6_decidedBy_39 : decode cX6_decidedBy 39 = .ok (.iaload, 1) := by decide +kernel
theorem dX6_decidedBy_40 : decode cX6_decidedBy 40 = .ok (.ireturn, 1) := by decide +kernel
theorem dX6_unlike_0 : decode cX6_unlike 0 = .ok (.aload_n 0, 1) := by decide +kernel
theorem dX6_unlike_1 : decode cX6_unlike 1 = .ok (.getfield 41, 3) := by decide +kernel
theorem dX6_unlike_4 : decode cX6_unlike 4 = .ok (.aload_n 0, 1) := by decide +kernel
theorem dX6_unlike_5 : decode cX6_unlike 5 = .ok (.getfield 67, 3) := by decide +kernel
theorem dX6_unlike_8 : decode cX6_unlike 8 = .ok (.aload_n 0, 1) := by decide +kernel
theorem dX6_unlike_9 : decode cX6_unlike 9 = .ok (.getfield 85, 3) := by decide +kernel
theorem dX6_unlike_12 : decode cX6_unlike 12 = .ok (.invokestatic 118, 3) := by decide +kernel
theorem dX6_unlike_15 : decode cX6_unlike 15 = .ok (.ireturn, 1) := by decide +kernel
theorem dX6_obeyed_0 : decode cX6_obeyed 0 = .ok (.aload_n 0, 1) := by decide +kernel
theorem dX6_obeyed_1 : decode cX6_obeyed 1 = .ok (.getfield 85, 3) := by decide +kernel
theorem dX6_obeyed_4 : decode cX6_obeyed 4 = .ok (.aload_n 0, 1) := by decide +kernel
theorem dX6_obeyed_5 : decode cX6_obeyed 5 = .ok (.getfield 9, 3) := by decide +kernel
theorem dX6_obeyed_8 : decode cX6_obeyed 8 = .ok (.invokestatic 124, 3) := by decide +kernel
theorem dX6_obeyed_11 : decode cX6_obeyed 11 = .ok (.ifCond .eq 5, 3) := by decide +kernel
theorem dX6_obeyed_14 : decode cX6_obeyed 14 = .ok (.iconst 1, 1) := by decide +kernel
theorem dX6_obeyed_15 : decode cX6_obeyed 15 = .ok (.ireturn, 1) := by decide +kernel
theorem dX6_obeyed_16 : decode cX6_obeyed 16 = .ok (.iconst 0, 1) := by decide +kernel
theorem dX6_obeyed_17 : decode cX6_obeyed 17 = .ok (.istore_n 1, 1) := by decide +kernel
theorem dX6_obeyed_18 : decode cX6_obeyed 18 = .ok (.iload_n 1, 1) := by decide +kernel
theorem dX6_obeyed_19 : decode cX6_obeyed 19 = .ok (.aload_n 0, 1) := by decide +kernel
theorem dX6_obeyed_20 : decode cX6_obeyed 20 = .ok (.getfield 67, 3) := by decide +kernel
theorem dX6_obeyed_23 : decode cX6_obeyed 23 = .ok (.if_icmp .ge 35, 3) := by decide +kernel
theorem dX6_obeyed_26 : decode cX6_obeyed 26 = .ok (.aload_n 0, 1) := by decide +kernel
theorem dX6_obeyed_27 : decode cX6_obeyed 27 = .ok (.getfield 85, 3) := by decide +kernel
theorem dX6_obeyed_30 : decode cX6_obeyed 30 = .ok (.iload_n 1, 1) := by decide +kernel
theorem dX6_obeyed_31 : decode cX6_obeyed 31 = .ok (.invokestatic 124, 3) := by decide +kernel
theorem dX6_obeyed_34 : decode cX6_obeyed 34 = .ok (.ifCond .ne 18, 3) := by decide +kernel
theorem dX6_obeyed_37 : decode cX6_obeyed 37 = .ok (.aload_n 0, 1) := by decide +kernel
theorem dX6_obeyed_38 : decode cX6_obeyed 38 = .ok (.getfield 41, 3) := by decide +kernel
theorem dX6_obeyed_41 : decode cX6_obeyed 41 = .ok (.iload_n 1, 1) := by decide +kernel
theorem dX6_obeyed_42 : decode cX6_obeyed 42 = .ok (.iaload, 1) := by decide +kernel
theorem dX6_obeyed_43 : decode cX6_obeyed 43 = .ok (.aload_n 0, 1) := by decide +kernel
theorem dX6_obeyed_44 : decode cX6_obeyed 44 = .ok (.getfield 89, 3) := by decide +kernel
theorem dX6_obeyed_47 : decode cX6_obeyed 47 = .ok (.if_icmp .eq 5, 3) := by decide +kernel
theorem dX6_obeyed_50 : decode cX6_obeyed 50 = .ok (.iconst 0, 1) := by decide +kernel
theorem dX6_obeyed_51 : decode cX6_obeyed 51 = .ok (.ireturn, 1) := by decide +kernel
theorem dX6_obeyed_52 : decode cX6_obeyed 52 = .ok (.iinc 1 1, 3) := by decide +kernel
theorem dX6_obeyed_55 : decode cX6_obeyed 55 = .ok (.goto (-37), 3) := by decide +kernel
theorem dX6_obeyed_58 : decode cX6_obeyed 58 = .ok (.iconst 1, 1) := by decide +kernel
theorem dX6_obeyed_59 : decode cX6_obeyed 59 = .ok (.ireturn, 1) := by decide +kernel
theorem dX6_heardBy_0 : decode cX6_heardBy 0 = .ok (.aload_n 0, 1) := by decide +kernel
theorem dX6_heardBy_1 : decode cX6_heardBy 1 = .ok (.getfield 28, 3) := by decide +kernel
theorem dX6_heardBy_4 : decode cX6_heardBy 4 = .ok (.iload_n 1, 1) := by decide +kernel
theorem dX6_heardBy_5 : decode cX6_heardBy 5 = .ok (.bipush 57, 2) := by decide +kernel
theorem dX6_heardBy_7 : decode cX6_heardBy 7 = .ok (.imul, 1) := by decide +kernel
theorem dX6_heardBy_8 : decode cX6_heardBy 8 = .ok (.iload_n 2, 1) := by decide +kernel
theorem dX6_heardBy_9 : decode cX6_heardBy 9 = .ok (.iadd, 1) := by decide +kernel
theorem dX6_heardBy_10 : decode cX6_heardBy 10 = .ok (.iaload, 1) := by decide +kernel
theorem dX6_heardBy_11 : decode cX6_heardBy 11 = .ok (.ireturn, 1) := by decide +kernel
theorem dX6_isGone_0 : decode cX6_isGone 0 = .ok (.aload_n 0, 1) := by decide +kernel
theorem dX6_isGone_1 : decode cX6_isGone 1 = .ok (.getfield 31, 3) := by decide +kernel
theorem dX6_isGone_4 : decode cX6_isGone 4 = .ok (.iload_n 1, 1) := by decide +kernel
theorem dX6_isGone_5 : decode cX6_isGone 5 = .ok (.bipush 57, 2) := by decide +kernel
theorem dX6_isGone_7 : decode cX6_isGone 7 = .ok (.imul, 1) := by decide +kernel
theorem dX6_isGone_8 : decode cX6_isGone 8 = .ok (.iload_n 2, 1) := by decide +kernel
theorem dX6_isGone_9 : decode cX6_isGone 9 = .ok (.iadd, 1) := by decide +kernel
theorem dX6_isGone_10 : decode cX6_isGone 10 = .ok (.baload, 1) := by decide +kernel
theorem dX6_isGone_11 : decode cX6_isGone 11 = .ok (.ireturn, 1) := by decide +kernel
theorem dX6_resolvedBy_0 : decode cX6_resolvedBy 0 = .ok (.aload_n 0, 1) := by decide +kernel
theorem dX6_resolvedBy_1 : decode cX6_resolvedBy 1 = .ok (.getfield 35, 3) := by decide +kernel
theorem dX6_resolvedBy_4 : decode cX6_resolvedBy 4 = .ok (.iload_n 1, 1) := by decide +kernel
theorem dX6_resolvedBy_5 : decode cX6_resolvedBy 5 = .ok (.bipush 57, 2) := by decide +kernel
theorem dX6_resolvedBy_7 : decode cX6_resolvedBy 7 = .ok (.imul, 1) := by decide +kernel
theorem dX6_resolvedBy_8 : decode cX6_resolvedBy 8 = .ok (.iload_n 2, 1) := by decide +kernel
theorem dX6_resolvedBy_9 : decode cX6_resolvedBy 9 = .ok (.iadd, 1) := by decide +kernel
theorem dX6_resolvedBy_10 : decode cX6_resolvedBy 10 = .ok (.iaload, 1) := by decide +kernel
theorem dX6_resolvedBy_11 : decode cX6_resolvedBy 11 = .ok (.ireturn, 1) := by decide +kernel
theorem dX6_pathOf_0 : decode cX6_pathOf 0 = .ok (.aload_n 0, 1) := by decide +kernel
theorem dX6_pathOf_1 : decode cX6_pathOf 1 = .ok (.getfield 9, 3) := by decide +kernel
theorem dX6_pathOf_4 : decode cX6_pathOf 4 = .ok (.iconst (-1), 1) := by decide +kernel
theorem dX6_pathOf_5 : decode cX6_pathOf 5 = .ok (.if_icmp .eq 11, 3) := by decide +kernel
theorem dX6_pathOf_8 : decode cX6_pathOf 8 = .ok (.iload_n 1, 1) := by decide +kernel
theorem dX6_pathOf_9 : decode cX6_pathOf 9 = .ok (.aload_n 0, 1) := by decide +kernel
theorem dX6_pathOf_10 : decode cX6_pathOf 10 = .ok (.getfield 9, 3) := by decide +kernel
theorem dX6_pathOf_13 : decode cX6_pathOf 13 = .ok (.if_icmp .eq 5, 3) := by decide +kernel
theorem dX6_pathOf_16 : decode cX6_pathOf 16 = .ok (.iconst (-1), 1) := by decide +kernel
theorem dX6_pathOf_17 : decode cX6_pathOf 17 = .ok (.ireturn, 1) := by decide +kernel
theorem dX6_pathOf_18 : decode cX6_pathOf 18 = .ok (.iload_n 2, 1) := by decide +kernel
theorem dX6_pathOf_19 : decode cX6_pathOf 19 = .ok (.iconst (-1), 1) := by decide +kernel
theorem dX6_pathOf_20 : decode cX6_pathOf 20 = .ok (.if_icmp .ne 14, 3) := by decide +kernel
theorem dX6_pathOf_23 : decode cX6_pathOf 23 = .ok (.iload_n 3, 1) := by decide +kernel
theorem dX6_pathOf_24 : decode cX6_pathOf 24 = .ok (.iconst (-1), 1) := by decide +kernel
theorem dX6_pathOf_25 : decode cX6_pathOf 25 = .ok (.if_icmp .ne 7, 3) := by decide +kernel
theorem dX6_pathOf_28 : decode cX6_pathOf 28 = .ok (.iconst 0, 1) := by decide +kernel
theorem dX6_pathOf_29 : decode cX6_pathOf 29 = .ok (.goto 4, 3) := by decide +kernel
theorem dX6_pathOf_32 : decode cX6_pathOf 32 = .ok (.iconst (-1), 1) := by decide +kernel
theorem dX6_pathOf_33 : decode cX6_pathOf 33 = .ok (.ireturn, 1) := by decide +kernel
theorem dX6_pathOf_34 : decode cX6_pathOf 34 = .ok (.aload_n 0, 1) := by decide +kernel
theorem dX6_pathOf_35 : decode cX6_pathOf 35 = .ok (.getfield 71, 3) := by decide +kernel
theorem dX6_pathOf_38 : decode cX6_pathOf 38 = .ok (.iconst 1, 1) := by decide +kernel
theorem dX6_pathOf_39 : decode cX6_pathOf 39 = .ok (.if_icmp .lt 15, 3) := by decide +kernel
theorem dX6_pathOf_42 : decode cX6_pathOf 42 = .ok (.iload_n 2, 1) := by decide +kernel
theorem dX6_pathOf_43 : decode cX6_pathOf 43 = .ok (.ifCond .lt 11, 3) := by decide +kernel
theorem dX6_pathOf_46 : decode cX6_pathOf 46 = .ok (.iload_n 2, 1) := by decide +kernel
theorem dX6_pathOf_47 : decode cX6_pathOf 47 = .ok (.aload_n 0, 1) := by decide +kernel
theorem dX6_pathOf_48 : decode cX6_pathOf 48 = .ok (.getfield 67, 3) := by decide +kernel
theorem dX6_pathOf_51 : decode cX6_pathOf 51 = .ok (.if_icmp .lt 5, 3) := by decide +kernel
theorem dX6_pathOf_54 : decode cX6_pathOf 54 = .ok (.iconst (-1), 1) := by decide +kernel
theorem dX6_pathOf_55 : decode cX6_pathOf 55 = .ok (.ireturn, 1) := by decide +kernel
theorem dX6_pathOf_56 : decode cX6_pathOf 56 = .ok (.iload_n 3, 1) := by decide +kernel
theorem dX6_pathOf_57 : decode cX6_pathOf 57 = .ok (.iconst (-1), 1) := by decide +kernel
theorem dX6_pathOf_58 : decode cX6_pathOf 58 = .ok (.if_icmp .ne 21, 3) := by decide +kernel
theorem dX6_pathOf_61 : decode cX6_pathOf 61 = .ok (.aload_n 0, 1) := by decide +kernel
theorem dX6_pathOf_62 : decode cX6_pathOf 62 = .ok (.iconst 1, 1) := by decide +kernel
theorem dX6_pathOf_63 : decode cX6_pathOf 63 = .ok (.iload_n 2, 1) := by decide +kernel
theorem dX6_pathOf_64 : decode cX6_pathOf 64 = .ok (.iadd, 1) := by decide +kernel
theorem dX6_pathOf_65 : decode cX6_pathOf 65 = .ok (.invokevirtual 128, 3) := by decide +kernel
theorem dX6_pathOf_68 : decode cX6_pathOf 68 = .ok (.ifCond .eq 9, 3) := by decide +kernel
theorem dX6_pathOf_71 : decode cX6_pathOf 71 = .ok (.iconst 1, 1) := by decide +kernel
theorem dX6_pathOf_72 : decode cX6_pathOf 72 = .ok (.iload_n 2, 1) := by decide +kernel
theorem dX6_pathOf_73 : decode cX6_pathOf 73 = .ok (.iadd, 1) := by decide +kernel
theorem dX6_pathOf_74 : decode cX6_pathOf 74 = .ok (.goto 4, 3) := by decide +kernel
theorem dX6_pathOf_77 : decode cX6_pathOf 77 = .ok (.iconst (-1), 1) := by decide +kernel
theorem dX6_pathOf_78 : decode cX6_pathOf 78 = .ok (.ireturn, 1) := by decide +kernel
theorem dX6_pathOf_79 : decode cX6_pathOf 79 = .ok (.aload_n 0, 1) := by decide +kernel
theorem dX6_pathOf_80 : decode cX6_pathOf 80 = .ok (.getfield 71, 3) := by decide +kernel
theorem dX6_pathOf_83 : decode cX6_pathOf 83 = .ok (.iconst 2, 1) := by decide +kernel
theorem dX6_pathOf_84 : decode cX6_pathOf 84 = .ok (.if_icmp .lt 15, 3) := by decide +kernel
theorem dX6_pathOf_87 : decode cX6_pathOf 87 = .ok (.iload_n 3, 1) := by decide +kernel
theorem dX6_pathOf_88 : decode cX6_pathOf 88 = .ok (.ifCond .lt 11, 3) := by decide +kernel
theorem dX6_pathOf_91 : decode cX6_pathOf 91 = .ok (.iload_n 3, 1) := by decide +kernel
theorem dX6_pathOf_92 : decode cX6_pathOf 92 = .ok (.aload_n 0, 1) := by decide +kernel
theorem dX6_pathOf_93 : decode cX6_pathOf 93 = .ok (.getfield 67, 3) := by decide +kernel
theorem dX6_pathOf_96 : decode cX6_pathOf 96 = .ok (.if_icmp .lt 5, 3) := by decide +kernel
theorem dX6_pathOf_99 : decode cX6_pathOf 99 = .ok (.iconst (-1), 1) := by decide +kernel
theorem dX6_pathOf_100 : decode cX6_pathOf 100 = .ok (.ireturn, 1) := by decide +kernel
theorem dX6_pathOf_101 : decode cX6_pathOf 101 = .ok (.bipush 8, 2) := by decide +kernel
theorem dX6_pathOf_103 : decode cX6_pathOf 103 = .ok (.bipush 7, 2) := by decide +kernel
theorem dX6_pathOf_105 : decode cX6_pathOf 105 = .ok (.iload_n 2, 1) := by decide +kernel
theorem dX6_pathOf_106 : decode cX6_pathOf 106 = .ok (.imul, 1) := by decide +kernel
theorem dX6_pathOf_107 : decode cX6_pathOf 107 = .ok (.iadd, 1) := by decide +kernel
theorem dX6_pathOf_108 : decode cX6_pathOf 108 = .ok (.iload_n 3, 1) := by decide +kernel
theorem dX6_pathOf_109 : decode cX6_pathOf 109 = .ok (.iadd, 1) := by decide +kernel
theorem dX6_pathOf_110 : decode cX6_pathOf 110 = .ok (.istore 4, 2) := by decide +kernel
theorem dX6_pathOf_112 : decode cX6_pathOf 112 = .ok (.aload_n 0, 1) := by decide +kernel
theorem dX6_pathOf_113 : decode cX6_pathOf 113 = .ok (.iload 4, 2) := by decide +kernel
theorem dX6_pathOf_115 : decode cX6_pathOf 115 = .ok (.invokevirtual 128, 3) := by decide +kernel
theorem dX6_pathOf_118 : decode cX6_pathOf 118 = .ok (.ifCond .eq 8, 3) := by decide +kernel
theorem dX6_pathOf_121 : decode cX6_pathOf 121 = .ok (.iload 4, 2) := by decide +kernel
theorem dX6_pathOf_123 : decode cX6_pathOf 123 = .ok (.goto 4, 3) := by decide +kernel
theorem dX6_pathOf_126 : decode cX6_pathOf 126 = .ok (.iconst (-1), 1) := by decide +kernel
theorem dX6_pathOf_127 : decode cX6_pathOf 127 = .ok (.ireturn, 1) := by decide +kernel
theorem dX6_hears_0 : decode cX6_hears 0 = .ok (.aload_n 0, 1) := by decide +kernel
theorem dX6_hears_1 : decode cX6_hears 1 = .ok (.iload_n 2, 1) := by decide +kernel
theorem dX6_hears_2 : decode cX6_hears 2 = .ok (.iload_n 1, 1) := by decide +kernel
theorem dX6_hears_3 : decode cX6_hears 3 = .ok (.invokevirtual 132, 3) := by decide +kernel
theorem dX6_hears_6 : decode cX6_hears 6 = .ok (.ifCond .eq 16, 3) := by decide +kernel
theorem dX6_hears_9 : decode cX6_hears 9 = .ok (.iload_n 2, 1) := by decide +kernel
theorem dX6_hears_10 : decode cX6_hears 10 = .ok (.ifCond .le 16, 3) := by decide +kernel
theorem dX6_hears_13 : decode cX6_hears 13 = .ok (.aload_n 0, 1) := by decide +kernel
theorem dX6_hears_14 : decode cX6_hears 14 = .ok (.iload_n 2, 1) := by decide +kernel
theorem dX6_hears_15 : decode cX6_hears 15 = .ok (.invokevirtual 135, 3) := by decide +kernel
theorem dX6_hears_18 : decode cX6_hears 18 = .ok (.iload_n 1, 1) := by decide +kernel
theorem dX6_hears_19 : decode cX6_hears 19 = .ok (.if_icmp .ne 7, 3) := by decide +kernel
theorem dX6_hears_22 : decode cX6_hears 22 = .ok (.iconst 1, 1) := by decide +kernel
theorem dX6_hears_23 : decode cX6_hears 23 = .ok (.goto 4, 3) := by decide +kernel
theorem dX6_hears_26 : decode cX6_hears 26 = .ok (.iconst 0, 1) := by decide +kernel
theorem dX6_hears_27 : decode cX6_hears 27 = .ok (.ireturn, 1) := by decide +kernel
theorem dX6_isCommon_0 : decode cX6_isCommon 0 = .ok (.iconst (-1), 1) := by decide +kernel
theorem dX6_isCommon_1 : decode cX6_isCommon 1 = .ok (.istore_n 2, 1) := by decide +kernel
theorem dX6_isCommon_2 : decode cX6_isCommon 2 = .ok (.iconst 0, 1) := by decide +kernel
theorem dX6_isCommon_3 : decode cX6_isCommon 3 = .ok (.istore_n 3, 1) := by decide +kernel
theorem dX6_isCommon_4 : decode cX6_isCommon 4 = .ok (.iload_n 3, 1) := by decide +kernel
theorem dX6_isCommon_5 : decode cX6_isCommon 5 = .ok (.aload_n 0, 1) := by decide +kernel
theorem dX6_isCommon_6 : decode cX6_isCommon 6 = .ok (.getfield 67, 3) := by decide +kernel
theorem dX6_isCommon_9 : decode cX6_isCommon 9 = .ok (.if_icmp .ge 57, 3) := by decide +kernel
theorem dX6_isCommon_12 : decode cX6_isCommon 12 = .ok (.aload_n 0, 1) := by decide +kernel
theorem dX6_isCommon_13 : decode cX6_isCommon 13 = .ok (.getfield 85, 3) := by decide +kernel
theorem dX6_isCommon_16 : decode cX6_isCommon 16 = .ok (.iload_n 3, 1) := by decide +kernel
theorem dX6_isCommon_17 : decode cX6_isCommon 17 = .ok (.invokestatic 124, 3) := by decide +kernel
theorem dX6_isCommon_20 : decode cX6_isCommon 20 = .ok (.ifCond .ne 40, 3) := by decide +kernel
theorem dX6_isCommon_23 : decode cX6_isCommon 23 = .ok (.aload_n 0, 1) := by decide +kernel
theorem dX6_isCommon_24 : decode cX6_isCommon 24 = .ok (.iload_n 1, 1) := by decide +kernel
theorem dX6_isCommon_25 : decode cX6_isCommon 25 = .ok (.iload_n 3, 1) := by decide +kernel
theorem dX6_isCommon_26 : decode cX6_isCommon 26 = .ok (.invokevirtual 132, 3) := by decide +kernel
theorem dX6_isCommon_29 : decode cX6_isCommon 29 = .ok (.ifCond .ne 31, 3) := by decide +kernel
theorem dX6_isCommon_32 : decode cX6_isCommon 32 = .ok (.iload_n 2, 1) := by decide +kernel
theorem dX6_isCommon_33 : decode cX6_isCommon 33 = .ok (.iconst (-1), 1) := by decide +kernel
theorem dX6_isCommon_34 : decode cX6_isCommon 34 = .ok (.if_icmp .ne 7, 3) := by decide +kernel
theorem dX6_isCommon_37 : decode cX6_isCommon 37 = .ok (.iload_n 3, 1) := by decide +kernel
theorem dX6_isCommon_38 : decode cX6_isCommon 38 = .ok (.goto 4, 3) := by decide +kernel
theorem dX6_isCommon_41 : decode cX6_isCommon 41 = .ok (.iload_n 2, 1) := by decide +kernel
theorem dX6_isCommon_42 : decode cX6_isCommon 42 = .ok (.istore_n 2, 1) := by decide +kernel
theorem dX6_isCommon_43 : decode cX6_isCommon 43 = .ok (.aload_n 0, 1) := by decide +kernel
theorem dX6_isCommon_44 : decode cX6_isCommon 44 = .ok (.iload_n 3, 1) := by decide +kernel
theorem dX6_isCommon_45 : decode cX6_isCommon 45 = .ok (.iload_n 1, 1) := by decide +kernel
theorem dX6_isCommon_46 : decode cX6_isCommon 46 = .ok (.invokevirtual 114, 3) := by decide +kernel
theorem dX6_isCommon_49 : decode cX6_isCommon 49 = .ok (.aload_n 0, 1) := by decide +kernel
theorem dX6_isCommon_50 : decode cX6_isCommon 50 = .ok (.iload_n 2, 1) := by decide +kernel
theorem dX6_isCommon_51 : decode cX6_isCommon 51 = .ok (.iload_n 1, 1) := by decide +kernel
theorem dX6_isCommon_52 : decode cX6_isCommon 52 = .ok (.invokevirtual 114, 3) := by decide +kernel
theorem dX6_isCommon_55 : decode cX6_isCommon 55 = .ok (.if_icmp .eq 5, 3) := by decide +kernel
theorem dX6_isCommon_58 : decode cX6_isCommon 58 = .ok (.iconst 0, 1) := by decide +kernel
theorem dX6_isCommon_59 : decode cX6_isCommon 59 = .ok (.ireturn, 1) := by decide +kernel
theorem dX6_isCommon_60 : decode cX6_isCommon 60 = .ok (.iinc 3 1, 3) := by decide +kernel
theorem dX6_isCommon_63 : decode cX6_isCommon 63 = .ok (.goto (-59), 3) := by decide +kernel
theorem dX6_isCommon_66 : decode cX6_isCommon 66 = .ok (.iconst 1, 1) := by decide +kernel
theorem dX6_isCommon_67 : decode cX6_isCommon 67 = .ok (.ireturn, 1) := by decide +kernel
theorem dX6_commonOnes_0 : decode cX6_commonOnes 0 = .ok (.iconst 0, 1) := by decide +kernel
theorem dX6_commonOnes_1 : decode cX6_commonOnes 1 = .ok (.istore_n 2, 1) := by decide +kernel
theorem dX6_commonOnes_2 : decode cX6_commonOnes 2 = .ok (.aload_n 0, 1) := by decide +kernel
theorem dX6_commonOnes_3 : decode cX6_commonOnes 3 = .ok (.getfield 9, 3) := by decide +kernel
theorem dX6_commonOnes_6 : decode cX6_commonOnes 6 = .ok (.iconst (-1), 1) := by decide +kernel
theorem dX6_commonOnes_7 : decode cX6_commonOnes 7 = .ok (.if_icmp .eq 50, 3) := by decide +kernel
theorem dX6_commonOnes_10 : decode cX6_commonOnes 10 = .ok (.getstatic 139, 3) := by decide +kernel
theorem dX6_commonOnes_13 : decode cX6_commonOnes 13 = .ok (.iload_n 1, 1) := by decide +kernel
theorem dX6_commonOnes_14 : decode cX6_commonOnes 14 = .ok (.iaload, 1) := by decide +kernel
theorem dX6_commonOnes_15 : decode cX6_commonOnes 15 = .ok (.istore_n 3, 1) := by decide +kernel
theorem dX6_commonOnes_16 : decode cX6_commonOnes 16 = .ok (.iload_n 3, 1) := by decide +kernel
theorem dX6_commonOnes_17 : decode cX6_commonOnes 17 = .ok (.getstatic 139, 3) := by decide +kernel
theorem dX6_commonOnes_20 : decode cX6_commonOnes 20 = .ok (.iload_n 1, 1) := by decide +kernel
theorem dX6_commonOnes_21 : decode cX6_commonOnes 21 = .ok (.iconst 1, 1) := by decide +kernel
theorem dX6_commonOnes_22 : decode cX6_commonOnes 22 = .ok (.iadd, 1) := by decide +kernel
theorem dX6_commonOnes_23 : decode cX6_commonOnes 23 = .ok (.iaload, 1) := by decide +kernel
theorem dX6_commonOnes_24 : decode cX6_commonOnes 24 = .ok (.if_icmp .ge 33, 3) := by decide +kernel
theorem dX6_commonOnes_27 : decode cX6_commonOnes 27 = .ok (.iload_n 2, 1) := by decide +kernel
theorem dX6_commonOnes_28 : decode cX6_commonOnes 28 = .ok (.aload_n 0, 1) := by decide +kernel
theorem dX6_commonOnes_29 : decode cX6_commonOnes 29 = .ok (.iload_n 3, 1) := by decide +kernel
theorem dX6_commonOnes_30 : decode cX6_commonOnes 30 = .ok (.invokevirtual 128, 3) := by decide +kernel
theorem dX6_commonOnes_33 : decode cX6_commonOnes 33 = .ok (.ifCond .eq 15, 3) := by decide +kernel
theorem dX6_commonOnes_36 : decode cX6_commonOnes 36 = .ok (.aload_n 0, 1) := by decide +kernel
theorem dX6_commonOnes_37 : decode cX6_commonOnes 37 = .ok (.iload_n 3, 1) := by decide +kernel
theorem dX6_commonOnes_38 : decode cX6_commonOnes 38 = .ok (.invokevirtual 142, 3) := by decide +kernel
theorem dX6_commonOnes_41 : decode cX6_commonOnes 41 = .ok (.ifCond .eq 7, 3) := by decide +kernel
theorem dX6_commonOnes_44 : decode cX6_commonOnes 44 = .ok (.iconst 1, 1) := by decide +kernel
theorem dX6_commonOnes_45 : decode cX6_commonOnes 45 = .ok (.goto 4, 3) := by decide +kernel
theorem dX6_commonOnes_48 : decode cX6_commonOnes 48 = .ok (.iconst 0, 1) := by decide +kernel
theorem dX6_commonOnes_49 : decode cX6_commonOnes 49 = .ok (.iadd, 1) := by decide +kernel
theorem dX6_commonOnes_50 : decode cX6_commonOnes 50 = .ok (.istore_n 2, 1) := by decide +kernel
theorem dX6_commonOnes_51 : decode cX6_commonOnes 51 = .ok (.iinc 3 1, 3) := by decide +kernel
theorem dX6_commonOnes_54 : decode cX6_commonOnes 54 = .ok (.goto (-38), 3) := by decide +kernel
theorem dX6_commonOnes_57 : decode cX6_commonOnes 57 = .ok (.iload_n 2, 1) := by decide +kernel
theorem dX6_commonOnes_58 : decode cX6_commonOnes 58 = .ok (.ireturn, 1) := by decide +kernel
theorem dX6_isCovered_0 : decode cX6_isCovered 0 = .ok (.aload_n 0, 1) := by decide +kernel
theorem dX6_isCovered_1 : decode cX6_isCovered 1 = .ok (.getfield 9, 3) := by decide +kernel
theorem dX6_isCovered_4 : decode cX6_isCovered 4 = .ok (.iconst (-1), 1) := by decide +kernel
theorem dX6_isCovered_5 : decode cX6_isCovered 5 = .ok (.if_icmp .ne 5, 3) := by decide +kernel
theorem dX6_isCovered_8 : decode cX6_isCovered 8 = .ok (.iconst 0, 1) := by decide +kernel
theorem dX6_isCovered_9 : decode cX6_isCovered 9 = .ok (.ireturn, 1) := by decide +kernel
theorem dX6_isCovered_10 : decode cX6_isCovered 10 = .ok (.getstatic 139, 3) := by decide +kernel
theorem dX6_isCovered_13 : decode cX6_isCovered 13 = .ok (.aload_n 0, 1) := by decide +kernel
theorem dX6_isCovered_14 : decode cX6_isCovered 14 = .ok (.getfield 71, 3) := by decide +kernel
theorem dX6_isCovered_17 : decode cX6_isCovered 17 = .ok (.iconst 1, 1) := by decide +kernel
theorem dX6_isCovered_18 : decode cX6_isCovered 18 = .ok (.iadd, 1) := by decide +kernel
theorem dX6_isCovered_19 : decode cX6_isCovered 19 = .ok (.iaload, 1) := by decide +kernel
theorem dX6_isCovered_20 : decode cX6_isCovered 20 = .ok (.istore_n 1, 1) := by decide +kernel
theorem dX6_isCovered_21 : decode cX6_isCovered 21 = .ok (.iload_n 1, 1) := by decide +kernel
theorem dX6_isCovered_22 : decode cX6_isCovered 22 = .ok (.getstatic 139, 3) := by decide +kernel
theorem dX6_isCovered_25 : decode cX6_isCovered 25 = .ok (.aload_n 0, 1) := by decide +kernel
theorem dX6_isCovered_26 : decode cX6_isCovered 26 = .ok (.getfield 71, 3) := by decide +kernel
theorem dX6_isCovered_29 : decode cX6_isCovered 29 = .ok (.iconst 2, 1) := by decide +kernel
theorem dX6_isCovered_30 : decode cX6_isCovered 30 = .ok (.iadd, 1) := by decide +kernel
theorem dX6_isCovered_31 : decode cX6_isCovered 31 = .ok (.iaload, 1) := by decide +kernel
theorem dX6_isCovered_32 : decode cX6_isCovered 32 = .ok (.if_icmp .ge 27, 3) := by decide +kernel
theorem dX6_isCovered_35 : decode cX6_isCovered 35 = .ok (.aload_n 0, 1) := by decide +kernel
theorem dX6_isCovered_36 : decode cX6_isCovered 36 = .ok (.iload_n 1, 1) := by decide +kernel
theorem dX6_isCovered_37 : decode cX6_isCovered 37 = .ok (.invokevirtual 128, 3) := by decide +kernel
theorem dX6_isCovered_40 : decode cX6_isCovered 40 = .ok (.ifCond .eq 13, 3) := by decide +kernel
theorem dX6_isCovered_43 : decode cX6_isCovered 43 = .ok (.aload_n 0, 1) := by decide +kernel
theorem dX6_isCovered_44 : decode cX6_isCovered 44 = .ok (.iload_n 1, 1) := by decide +kernel
theorem dX6_isCovered_45 : decode cX6_isCovered 45 = .ok (.invokevirtual 145, 3) := by decide +kernel
theorem dX6_isCovered_48 : decode cX6_isCovered 48 = .ok (.ifCond .ne 5, 3) := by decide +kernel
theorem dX6_isCovered_51 : decode cX6_isCovered 51 = .ok (.iconst 0, 1) := by decide +kernel
theorem dX6_isCovered_52 : decode cX6_isCovered 52 = .ok (.ireturn, 1) := by decide +kernel
theorem dX6_isCovered_53 : decode cX6_isCovered 53 = .ok (.iinc 1 1, 3) := by decide +kernel
theorem dX6_isCovered_56 : decode cX6_isCovered 56 = .ok (.goto (-35), 3) := by decide +kernel
theorem dX6_isCovered_59 : decode cX6_isCovered 59 = .ok (.iconst 1, 1) := by decide +kernel
theorem dX6_isCovered_60 : decode cX6_isCovered 60 = .ok (.ireturn, 1) := by decide +kernel
theorem dX6_hasCommonPart_0 : decode cX6_hasCommonPart 0 = .ok (.aload_n 0, 1) := by decide +kernel
theorem dX6_hasCommonPart_1 : decode cX6_hasCommonPart 1 = .ok (.iconst 0, 1) := by decide +kernel
theorem dX6_hasCommonPart_2 : decode cX6_hasCommonPart 2 = .ok (.invokevirtual 142, 3) := by decide +kernel
theorem dX6_hasCommonPart_5 : decode cX6_hasCommonPart 5 = .ok (.ifCond .ne 30, 3) := by decide +kernel
theorem dX6_hasCommonPart_8 : decode cX6_hasCommonPart 8 = .ok (.aload_n 0, 1) := by decide +kernel
theorem dX6_hasCommonPart_9 : decode cX6_hasCommonPart 9 = .ok (.iload_n 1, 1) := by decide +kernel
theorem dX6_hasCommonPart_10 : decode cX6_hasCommonPart 10 = .ok (.invokevirtual 142, 3) := by decide +kernel
theorem dX6_hasCommonPart_13 : decode cX6_hasCommonPart 13 = .ok (.ifCond .ne 22, 3) := by decide +kernel
theorem dX6_hasCommonPart_16 : decode cX6_hasCommonPart 16 = .ok (.iload_n 1, 1) := by decide +kernel
theorem dX6_hasCommonPart_17 : decode cX6_hasCommonPart 17 = .ok (.bipush 8, 2) := by decide +kernel
theorem dX6_hasCommonPart_19 : decode cX6_hasCommonPart 19 = .ok (.if_icmp .lt 20, 3) := by decide +kernel
theorem dX6_hasCommonPart_22 : decode cX6_hasCommonPart 22 = .ok (.aload_n 0, 1) := by decide +kernel
theorem dX6_hasCommonPart_23 : decode cX6_hasCommonPart 23 = .ok (.iconst 1, 1) := by decide +kernel
theorem dX6_hasCommonPart_24 : decode cX6_hasCommonPart 24 = .ok (.iload_n 1, 1) := by decide +kernel
theorem dX6_hasCommonPart_25 : decode cX6_hasCommonPart 25 = .ok (.invokestatic 148, 3) := by decide +kernel
theorem dX6_hasCommonPart_28 : decode cX6_hasCommonPart 28 = .ok (.iadd, 1) := by decide +kernel
theorem dX6_hasCommonPart_29 : decode cX6_hasCommonPart 29 = .ok (.invokevirtual 142, 3) := by decide +kernel
theorem dX6_hasCommonPart_32 : decode cX6_hasCommonPart 32 = .ok (.ifCond .eq 7, 3) := by decide +kernel
theorem dX6_hasCommonPart_35 : decode cX6_hasCommonPart 35 = .ok (.iconst 1, 1) := by decide +kernel
theorem dX6_hasCommonPart_36 : decode cX6_hasCommonPart 36 = .ok (.goto 4, 3) := by decide +kernel
theorem dX6_hasCommonPart_39 : decode cX6_hasCommonPart 39 = .ok (.iconst 0, 1) := by decide +kernel
theorem dX6_hasCommonPart_40 : decode cX6_hasCommonPart 40 = .ok (.ireturn, 1) := by decide +kernel
theorem dX6_hear_0 : decode cX6_hear 0 = .ok (.lload 4, 2) := by decide +kernel
theorem dX6_hear_2 : decode cX6_hear 2 = .ok (.ldc2_w 151, 3) := by decide +kernel
theorem dX6_hear_5 : decode cX6_hear 5 = .ok (.lcmp, 1) := by decide +kernel
theorem dX6_hear_6 : decode cX6_hear 6 = .ok (.ifCond .eq 23, 3) := by decide +kernel
theorem dX6_hear_9 : decode cX6_hear 9 = .ok (.aload_n 0, 1) := by decide +kernel
theorem dX6_hear_10 : decode cX6_hear 10 = .ok (.dup, 1) := by decide +kernel
theorem dX6_hear_11 : decode cX6_hear 11 = .ok (.getfield 53, 3) := by decide +kernel
theorem dX6_hear_14 : decode cX6_hear 14 = .ok (.iconst 1, 1) := by decide +kernel
theorem dX6_hear_15 : decode cX6_hear 15 = .ok (.iadd, 1) := by decide +kernel
theorem dX6_hear_16 : decode cX6_hear 16 = .ok (.putfield 53, 3) := by decide +kernel
theorem dX6_hear_19 : decode cX6_hear 19 = .ok (.aload_n 0, 1) := by decide +kernel
theorem dX6_hear_20 : decode cX6_hear 20 = .ok (.getfield 25, 3) := by decide +kernel
theorem dX6_hear_23 : decode cX6_hear 23 = .ok (.iload_n 2, 1) := by decide +kernel
theorem dX6_hear_24 : decode cX6_hear 24 = .ok (.dup2, 1) := by decide +kernel
theorem dX6_hear_25 : decode cX6_hear 25 = .ok (.iaload, 1) := by decide +kernel
theorem dX6_hear_26 : decode cX6_hear 26 = .ok (.iconst 1, 1) := by decide +kernel
theorem dX6_hear_27 : decode cX6_hear 27 = .ok (.iadd, 1) := by decide +kernel
theorem dX6_hear_28 : decode cX6_hear 28 = .ok (.iastore, 1) := by decide +kernel
theorem dX6_hear_29 : decode cX6_hear 29 = .ok (.aload_n 0, 1) := by decide +kernel
theorem dX6_hear_30 : decode cX6_hear 30 = .ok (.getfield 15, 3) := by decide +kernel
theorem dX6_hear_33 : decode cX6_hear 33 = .ok (.iload_n 1, 1) := by decide +kernel
theorem dX6_hear_34 : decode cX6_hear 34 = .ok (.iaload, 1) := by decide +kernel
theorem dX6_hear_35 : decode cX6_hear 35 = .ok (.iload_n 2, 1) := by decide +kernel
theorem dX6_hear_36 : decode cX6_hear 36 = .ok (.invokestatic 124, 3) := by decide +kernel
theorem dX6_hear_39 : decode cX6_hear 39 = .ok (.istore 6, 2) := by decide +kernel
theorem dX6_hear_41 : decode cX6_hear 41 = .ok (.iload 6, 2) := by decide +kernel
theorem dX6_hear_43 : decode cX6_hear 43 = .ok (.ifCond .ne 14, 3) := by decide +kernel
theorem dX6_hear_46 : decode cX6_hear 46 = .ok (.lload 4, 2) := by decide +kernel
theorem dX6_hear_48 : decode cX6_hear 48 = .ok (.lconst 0, 1) := by decide +kernel
theorem dX6_hear_49 : decode cX6_hear 49 = .ok (.lcmp, 1) := by decide +kernel
theorem dX6_hear_50 : decode cX6_hear 50 = .ok (.ifCond .ge 7, 3) := by decide +kernel
theorem dX6_hear_53 : decode cX6_hear 53 = .ok (.iconst 1, 1) := by decide +kernel
theorem dX6_hear_54 : decode cX6_hear 54 = .ok (.goto 4, 3) := by decide +kernel
theorem dX6_hear_57 : decode cX6_hear 57 = .ok (.iconst 0, 1) := by decide +kernel
theorem dX6_hear_58 : decode cX6_hear 58 = .ok (.istore 7, 2) := by decide +kernel
theorem dX6_hear_60 : decode cX6_hear 60 = .ok (.iload 7, 2) := by decide +kernel
theorem dX6_hear_62 : decode cX6_hear 62 = .ok (.ifCond .eq 48, 3) := by decide +kernel
theorem dX6_hear_65 : decode cX6_hear 65 = .ok (.aload_n 0, 1) := by decide +kernel
theorem dX6_hear_66 : decode cX6_hear 66 = .ok (.getfield 22, 3) := by decide +kernel
theorem dX6_hear_69 : decode cX6_hear 69 = .ok (.iload_n 1, 1) := by decide +kernel
theorem dX6_hear_70 : decode cX6_hear 70 = .ok (.dup2, 1) := by decide +kernel
theorem dX6_hear_71 : decode cX6_hear 71 = .ok (.iaload, 1) := by decide +kernel
theorem dX6_hear_72 : decode cX6_hear 72 = .ok (.iconst 1, 1) := by decide +kernel
theorem dX6_hear_73 : decode cX6_hear 73 = .ok (.iadd, 1) := by decide +kernel
theorem dX6_hear_74 : decode cX6_hear 74 = .ok (.iastore, 1) := by decide +kernel
theorem dX6_hear_75 : decode cX6_hear 75 = .ok (.aload_n 0, 1) := by decide +kernel
theorem dX6_hear_76 : decode cX6_hear 76 = .ok (.getfield 38, 3) := by decide +kernel
theorem dX6_hear_79 : decode cX6_hear 79 = .ok (.iload_n 1, 1) := by decide +kernel
theorem dX6_hear_80 : decode cX6_hear 80 = .ok (.dup2, 1) := by decide +kernel
theorem dX6_hear_81 : decode cX6_hear 81 = .ok (.iaload, 1) := by decide +kernel
theorem dX6_hear_82 : decode cX6_hear 82 = .ok (.iconst 1, 1) := by decide +kernel
theorem dX6_hear_83 : decode cX6_hear 83 = .ok (.iload_n 2, 1) := by decide +kernel
theorem dX6_hear_84 : decode cX6_hear 84 = .ok (.ishl, 1) := by decide +kernel
theorem dX6_hear_85 : decode cX6_hear 85 = .ok (.ior, 1) := by decide +kernel
theorem dX6_hear_86 : decode cX6_hear 86 = .ok (.iastore, 1) := by decide +kernel
theorem dX6_hear_87 : decode cX6_hear 87 = .ok (.aload_n 0, 1) := by decide +kernel
theorem dX6_hear_88 : decode cX6_hear 88 = .ok (.dup, 1) := by decide +kernel
theorem dX6_hear_89 : decode cX6_hear 89 = .ok (.getfield 56, 3) := by decide +kernel
theorem dX6_hear_92 : decode cX6_hear 92 = .ok (.lload 4, 2) := by decide +kernel
theorem dX6_hear_94 : decode cX6_hear 94 = .ok (.ldc2_w 153, 3) := by decide +kernel
theorem dX6_hear_97 : decode cX6_hear 97 = .ok (.lcmp, 1) := by decide +kernel
theorem dX6_hear_98 : decode cX6_hear 98 = .ok (.ifCond .ne 7, 3) := by decide +kernel
theorem dX6_hear_101 : decode cX6_hear 101 = .ok (.iconst 1, 1) := by decide +kernel
theorem dX6_hear_102 : decode cX6_hear 102 = .ok (.goto 4, 3) := by decide +kernel
theorem dX6_hear_105 : decode cX6_hear 105 = .ok (.iconst 0, 1) := by decide +kernel
theorem dX6_hear_106 : decode cX6_hear 106 = .ok (.iadd, 1) := by decide +kernel
theorem dX6_hear_107 : decode cX6_hear 107 = .ok (.putfield 56, 3) := by decide +kernel
theorem dX6_hear_110 : decode cX6_hear 110 = .ok (.aload_n 0, 1) := by decide +kernel
theorem dX6_hear_111 : decode cX6_hear 111 = .ok (.iload_n 1, 1) := by decide +kernel
theorem dX6_hear_112 : decode cX6_hear 112 = .ok (.iload_n 3, 1) := by decide +kernel
theorem dX6_hear_113 : decode cX6_hear 113 = .ok (.iload 6, 2) := by decide +kernel
theorem dX6_hear_115 : decode cX6_hear 115 = .ok (.ifCond .ne 8, 3) := by decide +kernel
theorem dX6_hear_118 : decode cX6_hear 118 = .ok (.iload 7, 2) := by decide +kernel
theorem dX6_hear_120 : decode cX6_hear 120 = .ok (.ifCond .eq 10, 3) := by decide +kernel
theorem dX6_hear_123 : decode cX6_hear 123 = .ok (.aload_n 0, 1) := by decide +kernel
theorem dX6_hear_124 : decode cX6_hear 124 = .ok (.getfield 75, 3) := by decide +kernel
theorem dX6_hear_127 : decode cX6_hear 127 = .ok (.goto 6, 3) := by decide +kernel
theorem dX6_hear_130 : decode cX6_hear 130 = .ok (.lload 4, 2) := by decide +kernel
theorem dX6_hear_132 : decode cX6_hear 132 = .ok (.l2i, 1) := by decide +kernel
theorem dX6_hear_133 : decode cX6_hear 133 = .ok (.iload 7, 2) := by decide +kernel
theorem dX6_hear_135 : decode cX6_hear 135 = .ok (.invokevirtual 155, 3) := by decide +kernel
theorem dX6_hear_138 : decode cX6_hear 138 = .ok (.return_, 1) := by decide +kernel
theorem dX6_keep_0 : decode cX6_keep 0 = .ok (.aload_n 0, 1) := by decide +kernel
theorem dX6_keep_1 : decode cX6_keep 1 = .ok (.getfield 28, 3) := by decide +kernel
theorem dX6_keep_4 : decode cX6_keep 4 = .ok (.iload_n 1, 1) := by decide +kernel
theorem dX6_keep_5 : decode cX6_keep 5 = .ok (.bipush 57, 2) := by decide +kernel
theorem dX6_keep_7 : decode cX6_keep 7 = .ok (.imul, 1) := by decide +kernel
theorem dX6_keep_8 : decode cX6_keep 8 = .ok (.iload_n 2, 1) := by decide +kernel
theorem dX6_keep_9 : decode cX6_keep 9 = .ok (.iadd, 1) := by decide +kernel
theorem dX6_keep_10 : decode cX6_keep 10 = .ok (.iload_n 3, 1) := by decide +kernel
theorem dX6_keep_11 : decode cX6_keep 11 = .ok (.iastore, 1) := by decide +kernel
theorem dX6_keep_12 : decode cX6_keep 12 = .ok (.aload_n 0, 1) := by decide +kernel
theorem dX6_keep_13 : decode cX6_keep 13 = .ok (.getfield 31, 3) := by decide +kernel
theorem dX6_keep_16 : decode cX6_keep 16 = .ok (.iload_n 1, 1) := by decide +kernel
theorem dX6_keep_17 : decode cX6_keep 17 = .ok (.bipush 57, 2) := by decide +kernel
theorem dX6_keep_19 : decode cX6_keep 19 = .ok (.imul, 1) := by decide +kernel
theorem dX6_keep_20 : decode cX6_keep 20 = .ok (.iload_n 2, 1) := by decide +kernel
theorem dX6_keep_21 : decode cX6_keep 21 = .ok (.iadd, 1) := by decide +kernel
theorem dX6_keep_22 : decode cX6_keep 22 = .ok (.iload 4, 2) := by decide +kernel
theorem dX6_keep_24 : decode cX6_keep 24 = .ok (.bastore, 1) := by decide +kernel
theorem dX6_keep_25 : decode cX6_keep 25 = .ok (.return_, 1) := by decide +kernel
theorem dX6_tellRound_0 : decode cX6_tellRound 0 = .ok (.iconst 0, 1) := by decide +kernel
theorem dX6_tellRound_1 : decode cX6_tellRound 1 = .ok (.istore_n 3, 1) := by decide +kernel
theorem dX6_tellRound_2 : decode cX6_tellRound 2 = .ok (.iload_n 3, 1) := by decide +kernel
theorem dX6_tellRound_3 : decode cX6_tellRound 3 = .ok (.aload_n 0, 1) := by decide +kernel
theorem dX6_tellRound_4 : decode cX6_tellRound 4 = .ok (.getfield 67, 3) := by decide +kernel
theorem dX6_tellRound_7 : decode cX6_tellRound 7 = .ok (.if_icmp .ge 62, 3) := by decide +kernel
theorem dX6_tellRound_10 : decode cX6_tellRound 10 = .ok (.getstatic 139, 3) := by decide +kernel
theorem dX6_tellRound_13 : decode cX6_tellRound 13 = .ok (.iload_n 2, 1) := by decide +kernel
theorem dX6_tellRound_14 : decode cX6_tellRound 14 = .ok (.iconst 1, 1) := by decide +kernel
theorem dX6_tellRound_15 : decode cX6_tellRound 15 = .ok (.isub, 1) := by decide +kernel
theorem dX6_tellRound_16 : decode cX6_tellRound 16 = .ok (.iaload, 1) := by decide +kernel
theorem dX6_tellRound_17 : decode cX6_tellRound 17 = .ok (.istore 4, 2) := by decide +kernel
theorem dX6_tellRound_19 : decode cX6_tellRound 19 = .ok (.iload 4, 2) := by decide +kernel
theorem dX6_tellRound_21 : decode cX6_tellRound 21 = .ok (.getstatic 139, 3) := by decide +kernel
theorem dX6_tellRound_24 : decode cX6_tellRound 24 = .ok (.iload_n 2, 1) := by decide +kernel
theorem dX6_tellRound_25 : decode cX6_tellRound 25 = .ok (.iaload, 1) := by decide +kernel
theorem dX6_tellRound_26 : decode cX6_tellRound 26 = .ok (.if_icmp .ge 37, 3) := by decide +kernel
theorem dX6_tellRound_29 : decode cX6_tellRound 29 = .ok (.aload_n 0, 1) := by decide +kernel
theorem dX6_tellRound_30 : decode cX6_tellRound 30 = .ok (.iload 4, 2) := by decide +kernel
theorem dX6_tellRound_32 : decode cX6_tellRound 32 = .ok (.invokevirtual 128, 3) := by decide +kernel
theorem dX6_tellRound_35 : decode cX6_tellRound 35 = .ok (.ifCond .eq 22, 3) := by decide +kernel
theorem dX6_tellRound_38 : decode cX6_tellRound 38 = .ok (.aload_n 0, 1) := by decide +kernel
theorem dX6_tellRound_39 : decode cX6_tellRound 39 = .ok (.iload 4, 2) := by decide +kernel
theorem dX6_tellRound_41 : decode cX6_tellRound 41 = .ok (.iload_n 3, 1) := by decide +kernel
theorem dX6_tellRound_42 : decode cX6_tellRound 42 = .ok (.invokevirtual 132, 3) := by decide +kernel
theorem dX6_tellRound_45 : decode cX6_tellRound 45 = .ok (.ifCond .ne 12, 3) := by decide +kernel
theorem dX6_tellRound_48 : decode cX6_tellRound 48 = .ok (.aload_n 0, 1) := by decide +kernel
theorem dX6_tellRound_49 : decode cX6_tellRound 49 = .ok (.aload_n 1, 1) := by decide +kernel
theorem dX6_tellRound_50 : decode cX6_tellRound 50 = .ok (.iload_n 2, 1) := by decide +kernel
theorem dX6_tellRound_51 : decode cX6_tellRound 51 = .ok (.iload_n 3, 1) := by decide +kernel
theorem dX6_tellRound_52 : decode cX6_tellRound 52 = .ok (.iload 4, 2) := by decide +kernel
theorem dX6_tellRound_54 : decode cX6_tellRound 54 = .ok (.invokevirtual 159, 3) := by decide +kernel
theorem dX6_tellRound_57 : decode cX6_tellRound 57 = .ok (.iinc 4 1, 3) := by decide +kernel
theorem dX6_tellRound_60 : decode cX6_tellRound 60 = .ok (.goto (-41), 3) := by decide +kernel
theorem dX6_tellRound_63 : decode cX6_tellRound 63 = .ok (.iinc 3 1, 3) := by decide +kernel
theorem dX6_tellRound_66 : decode cX6_tellRound 66 = .ok (.goto (-64), 3) := by decide +kernel
theorem dX6_tellRound_69 : decode cX6_tellRound 69 = .ok (.return_, 1) := by decide +kernel
theorem dX6_tell_0 : decode cX6_tell 0 = .ok (.aload_n 0, 1) := by decide +kernel
theorem dX6_tell_1 : decode cX6_tell 1 = .ok (.iload_n 3, 1) := by decide +kernel
theorem dX6_tell_2 : decode cX6_tell 2 = .ok (.iload 4, 2) := by decide +kernel
theorem dX6_tell_4 : decode cX6_tell 4 = .ok (.invokevirtual 163, 3) := by decide +kernel
theorem dX6_tell_7 : decode cX6_tell 7 = .ok (.istore 5, 2) := by decide +kernel
theorem dX6_tell_9 : decode cX6_tell 9 = .ok (.iload 4, 2) := by decide +kernel
theorem dX6_tell_11 : decode cX6_tell 11 = .ok (.iload_n 3, 1) := by decide +kernel
theorem dX6_tell_12 : decode cX6_tell 12 = .ok (.invokestatic 166, 3) := by decide +kernel
theorem dX6_tell_15 : decode cX6_tell 15 = .ok (.istore 6, 2) := by decide +kernel
theorem dX6_tell_17 : decode cX6_tell 17 = .ok (.aload_n 0, 1) := by decide +kernel
theorem dX6_tell_18 : decode cX6_tell 18 = .ok (.iload_n 3, 1) := by decide +kernel
theorem dX6_tell_19 : decode cX6_tell 19 = .ok (.iload 6, 2) := by decide +kernel
theorem dX6_tell_21 : decode cX6_tell 21 = .ok (.iload 5, 2) := by decide +kernel
theorem dX6_tell_23 : decode cX6_tell 23 = .ok (.iconst 0, 1) := by decide +kernel
theorem dX6_tell_24 : decode cX6_tell 24 = .ok (.invokevirtual 155, 3) := by decide +kernel
theorem dX6_tell_27 : decode cX6_tell 27 = .ok (.iconst 0, 1) := by decide +kernel
theorem dX6_tell_28 : decode cX6_tell 28 = .ok (.istore 7, 2) := by decide +kernel
theorem dX6_tell_30 : decode cX6_tell 30 = .ok (.iload 7, 2) := by decide +kernel
theorem dX6_tell_32 : decode cX6_tell 32 = .ok (.aload_n 0, 1) := by decide +kernel
theorem dX6_tell_33 : decode cX6_tell 33 = .ok (.getfield 67, 3) := by decide +kernel
theorem dX6_tell_36 : decode cX6_tell 36 = .ok (.if_icmp .ge 51, 3) := by decide +kernel
theorem dX6_tell_39 : decode cX6_tell 39 = .ok (.iload 7, 2) := by decide +kernel
theorem dX6_tell_41 : decode cX6_tell 41 = .ok (.iload_n 3, 1) := by decide +kernel
theorem dX6_tell_42 : decode cX6_tell 42 = .ok (.if_icmp .eq 39, 3) := by decide +kernel
theorem dX6_tell_45 : decode cX6_tell 45 = .ok (.aload_n 0, 1) := by decide +kernel
theorem dX6_tell_46 : decode cX6_tell 46 = .ok (.iload 4, 2) := by decide +kernel
theorem dX6_tell_48 : decode cX6_tell 48 = .ok (.iload 7, 2) := by decide +kernel
theorem dX6_tell_50 : decode cX6_tell 50 = .ok (.invokevirtual 132, 3) := by decide +kernel
theorem dX6_tell_53 : decode cX6_tell 53 = .ok (.ifCond .ne 28, 3) := by decide +kernel
theorem dX6_tell_56 : decode cX6_tell 56 = .ok (.aload_n 0, 1) := by decide +kernel
theorem dX6_tell_57 : decode cX6_tell 57 = .ok (.iload 7, 2) := by decide +kernel
theorem dX6_tell_59 : decode cX6_tell 59 = .ok (.iload_n 3, 1) := by decide +kernel
theorem dX6_tell_60 : decode cX6_tell 60 = .ok (.iload 6, 2) := by decide +kernel
theorem dX6_tell_62 : decode cX6_tell 62 = .ok (.aload_n 1, 1) := by decide +kernel
theorem dX6_tell_63 : decode cX6_tell 63 = .ok (.iload_n 3, 1) := by decide +kernel
theorem dX6_tell_64 : decode cX6_tell 64 = .ok (.iload_n 2, 1) := by decide +kernel
theorem dX6_tell_65 : decode cX6_tell 65 = .ok (.iload 7, 2) := by decide +kernel
theorem dX6_tell_67 : decode cX6_tell 67 = .ok (.aload_n 0, 1) := by decide +kernel
theorem dX6_tell_68 : decode cX6_tell 68 = .ok (.iload 4, 2) := by decide +kernel
theorem dX6_tell_70 : decode cX6_tell 70 = .ok (.invokevirtual 135, 3) := by decide +kernel
theorem dX6_tell_73 : decode cX6_tell 73 = .ok (.iload 5, 2) := by decide +kernel
theorem dX6_tell_75 : decode cX6_tell 75 = .ok (.invokevirtual 95, 3) := by decide +kernel
theorem dX6_tell_78 : decode cX6_tell 78 = .ok (.invokevirtual 98, 3) := by decide +kernel
theorem dX6_tell_81 : decode cX6_tell 81 = .ok (.iinc 7 1, 3) := by decide +kernel
theorem dX6_tell_84 : decode cX6_tell 84 = .ok (.goto (-54), 3) := by decide +kernel
theorem dX6_tell_87 : decode cX6_tell 87 = .ok (.return_, 1) := by decide +kernel
theorem dX6_endRound_0 : decode cX6_endRound 0 = .ok (.iconst 0, 1) := by decide +kernel
theorem dX6_endRound_1 : decode cX6_endRound 1 = .ok (.istore_n 2, 1) := by decide +kernel
theorem dX6_endRound_2 : decode cX6_endRound 2 = .ok (.iload_n 2, 1) := by decide +kernel
theorem dX6_endRound_3 : decode cX6_endRound 3 = .ok (.aload_n 0, 1) := by decide +kernel
theorem dX6_endRound_4 : decode cX6_endRound 4 = .ok (.getfield 67, 3) := by decide +kernel
theorem dX6_endRound_7 : decode cX6_endRound 7 = .ok (.if_icmp .ge 96, 3) := by decide +kernel
theorem dX6_endRound_10 : decode cX6_endRound 10 = .ok (.iload_n 2, 1) := by decide +kernel
theorem dX6_endRound_11 : decode cX6_endRound 11 = .ok (.aload_n 0, 1) := by decide +kernel
theorem dX6_endRound_12 : decode cX6_endRound 12 = .ok (.getfield 9, 3) := by decide +kernel
theorem dX6_endRound_15 : decode cX6_endRound 15 = .ok (.if_icmp .eq 82, 3) := by decide +kernel
theorem dX6_endRound_18 : decode cX6_endRound 18 = .ok (.aload_n 0, 1) := by decide +kernel
theorem dX6_endRound_19 : decode cX6_endRound 19 = .ok (.iload_n 2, 1) := by decide +kernel
theorem dX6_endRound_20 : decode cX6_endRound 20 = .ok (.iload_n 1, 1) := by decide +kernel
theorem dX6_endRound_21 : decode cX6_endRound 21 = .ok (.invokevirtual 169, 3) := by decide +kernel
theorem dX6_endRound_24 : decode cX6_endRound 24 = .ok (.aload_n 0, 1) := by decide +kernel
theorem dX6_endRound_25 : decode cX6_endRound 25 = .ok (.getfield 15, 3) := by decide +kernel
theorem dX6_endRound_28 : decode cX6_endRound 28 = .ok (.iload_n 2, 1) := by decide +kernel
theorem dX6_endRound_29 : decode cX6_endRound 29 = .ok (.dup2, 1) := by decide +kernel
theorem dX6_endRound_30 : decode cX6_endRound 30 = .ok (.iaload, 1) := by decide +kernel
theorem dX6_endRound_31 : decode cX6_endRound 31 = .ok (.aload_n 0, 1) := by decide +kernel
theorem dX6_endRound_32 : decode cX6_endRound 32 = .ok (.getfield 38, 3) := by decide +kernel
theorem dX6_endRound_35 : decode cX6_endRound 35 = .ok (.iload_n 2, 1) := by decide +kernel
theorem dX6_endRound_36 : decode cX6_endRound 36 = .ok (.iaload, 1) := by decide +kernel
theorem dX6_endRound_37 : decode cX6_endRound 37 = .ok (.ior, 1) := by decide +kernel
theorem dX6_endRound_38 : decode cX6_endRound 38 = .ok (.iastore, 1) := by decide +kernel
theorem dX6_endRound_39 : decode cX6_endRound 39 = .ok (.aload_n 0, 1) := by decide +kernel
theorem dX6_endRound_40 : decode cX6_endRound 40 = .ok (.getfield 38, 3) := by decide +kernel
theorem dX6_endRound_43 : decode cX6_endRound 43 = .ok (.iload_n 2, 1) := by decide +kernel
theorem dX6_endRound_44 : decode cX6_endRound 44 = .ok (.iconst 0, 1) := by decide +kernel
theorem dX6_endRound_45 : decode cX6_endRound 45 = .ok (.iastore, 1) := by decide +kernel
theorem dX6_endRound_46 : decode cX6_endRound 46 = .ok (.iload_n 1, 1) := by decide +kernel
theorem dX6_endRound_47 : decode cX6_endRound 47 = .ok (.iconst 2, 1) := by decide +kernel
theorem dX6_endRound_48 : decode cX6_endRound 48 = .ok (.aload_n 0, 1) := by decide +kernel
theorem dX6_endRound_49 : decode cX6_endRound 49 = .ok (.getfield 15, 3) := by decide +kernel
theorem dX6_endRound_52 : decode cX6_endRound 52 = .ok (.iload_n 2, 1) := by decide +kernel
theorem dX6_endRound_53 : decode cX6_endRound 53 = .ok (.iaload, 1) := by decide +kernel
theorem dX6_endRound_54 : decode cX6_endRound 54 = .ok (.invokestatic 173, 3) := by decide +kernel
theorem dX6_endRound_57 : decode cX6_endRound 57 = .ok (.iadd, 1) := by decide +kernel
theorem dX6_endRound_58 : decode cX6_endRound 58 = .ok (.if_icmp .ge 13, 3) := by decide +kernel
theorem dX6_endRound_61 : decode cX6_endRound 61 = .ok (.iload_n 1, 1) := by decide +kernel
theorem dX6_endRound_62 : decode cX6_endRound 62 = .ok (.aload_n 0, 1) := by decide +kernel
theorem dX6_endRound_63 : decode cX6_endRound 63 = .ok (.getfield 71, 3) := by decide +kernel
theorem dX6_endRound_66 : decode cX6_endRound 66 = .ok (.iconst 1, 1) := by decide +kernel
theorem dX6_endRound_67 : decode cX6_endRound 67 = .ok (.iadd, 1) := by decide +kernel
theorem dX6_endRound_68 : decode cX6_endRound 68 = .ok (.if_icmp .ne 7, 3) := by decide +kernel
theorem dX6_endRound_71 : decode cX6_endRound 71 = .ok (.iconst 1, 1) := by decide +kernel
theorem dX6_endRound_72 : decode cX6_endRound 72 = .ok (.goto 4, 3) := by decide +kernel
theorem dX6_endRound_75 : decode cX6_endRound 75 = .ok (.iconst 0, 1) := by decide +kernel
theorem dX6_endRound_76 : decode cX6_endRound 76 = .ok (.istore_n 3, 1) := by decide +kernel
theorem dX6_endRound_77 : decode cX6_endRound 77 = .ok (.aload_n 0, 1) := by decide +kernel
theorem dX6_endRound_78 : decode cX6_endRound 78 = .ok (.getfield 19, 3) := by decide +kernel
theorem dX6_endRound_81 : decode cX6_endRound 81 = .ok (.iload_n 2, 1) := by decide +kernel
theorem dX6_endRound_82 : decode cX6_endRound 82 = .ok (.iaload, 1) := by decide +kernel
theorem dX6_endRound_83 : decode cX6_endRound 83 = .ok (.ifCond .ne 14, 3) := by decide +kernel
theorem dX6_endRound_86 : decode cX6_endRound 86 = .ok (.iload_n 3, 1) := by decide +kernel
theorem dX6_endRound_87 : decode cX6_endRound 87 = .ok (.ifCond .eq 10, 3) := by decide +kernel
theorem dX6_endRound_90 : decode cX6_endRound 90 = .ok (.aload_n 0, 1) := by decide +kernel
theorem dX6_endRound_91 : decode cX6_endRound 91 = .ok (.getfield 19, 3) := by decide +kernel
theorem dX6_endRound_94 : decode cX6_endRound 94 = .ok (.iload_n 2, 1) := by decide +kernel
theorem dX6_endRound_95 : decode cX6_endRound 95 = .ok (.iload_n 1, 1) := by decide +kernel
theorem dX6_endRound_96 : decode cX6_endRound 96 = .ok (.iastore, 1) := by decide +kernel
theorem dX6_endRound_97 : decode cX6_endRound 97 = .ok (.iinc 2 1, 3) := by decide +kernel
theorem dX6_endRound_100 : decode cX6_endRound 100 = .ok (.goto (-98), 3) := by decide +kernel
theorem dX6_endRound_103 : decode cX6_endRound 103 = .ok (.return_, 1) := by decide +kernel
theorem dX6_suspect_0 : decode cX6_suspect 0 = .ok (.getstatic 139, 3) := by decide +kernel
theorem dX6_suspect_3 : decode cX6_suspect 3 = .ok (.iload_n 2, 1) := by decide +kernel
theorem dX6_suspect_4 : decode cX6_suspect 4 = .ok (.iconst 1, 1) := by decide +kernel
theorem dX6_suspect_5 : decode cX6_suspect 5 = .ok (.isub, 1) := by decide +kernel
theorem dX6_suspect_6 : decode cX6_suspect 6 = .ok (.iaload, 1) := by decide +kernel
theorem dX6_suspect_7 : decode cX6_suspect 7 = .ok (.istore_n 3, 1) := by decide +kernel
theorem dX6_suspect_8 : decode cX6_suspect 8 = .ok (.iload_n 3, 1) := by decide +kernel
theorem dX6_suspect_9 : decode cX6_suspect 9 = .ok (.getstatic 139, 3) := by decide +kernel
theorem dX6_suspect_12 : decode cX6_suspect 12 = .ok (.iload_n 2, 1) := by decide +kernel
theorem dX6_suspect_13 : decode cX6_suspect 13 = .ok (.iaload, 1) := by decide +kernel
theorem dX6_suspect_14 : decode cX6_suspect 14 = .ok (.if_icmp .ge 95, 3) := by decide +kernel
theorem dX6_suspect_17 : decode cX6_suspect 17 = .ok (.aload_n 0, 1) := by decide +kernel
theorem dX6_suspect_18 : decode cX6_suspect 18 = .ok (.iload_n 3, 1) := by decide +kernel
theorem dX6_suspect_19 : decode cX6_suspect 19 = .ok (.invokevirtual 128, 3) := by decide +kernel
theorem dX6_suspect_22 : decode cX6_suspect 22 = .ok (.ifCond .eq 81, 3) := by decide +kernel
theorem dX6_suspect_25 : decode cX6_suspect 25 = .ok (.aload_n 0, 1) := by decide +kernel
theorem dX6_suspect_26 : decode cX6_suspect 26 = .ok (.iload_n 3, 1) := by decide +kernel
theorem dX6_suspect_27 : decode cX6_suspect 27 = .ok (.iload_n 1, 1) := by decide +kernel
theorem dX6_suspect_28 : decode cX6_suspect 28 = .ok (.invokevirtual 132, 3) := by decide +kernel
theorem dX6_suspect_31 : decode cX6_suspect 31 = .ok (.ifCond .ne 72, 3) := by decide +kernel
theorem dX6_suspect_34 : decode cX6_suspect 34 = .ok (.aload_n 0, 1) := by decide +kernel
theorem dX6_suspect_35 : decode cX6_suspect 35 = .ok (.aload_n 0, 1) := by decide +kernel
theorem dX6_suspect_36 : decode cX6_suspect 36 = .ok (.getfield 28, 3) := by decide +kernel
theorem dX6_suspect_39 : decode cX6_suspect 39 = .ok (.iload_n 1, 1) := by decide +kernel
theorem dX6_suspect_40 : decode cX6_suspect 40 = .ok (.bipush 57, 2) := by decide +kernel
theorem dX6_suspect_42 : decode cX6_suspect 42 = .ok (.imul, 1) := by decide +kernel
theorem dX6_suspect_43 : decode cX6_suspect 43 = .ok (.iload_n 3, 1) := by decide +kernel
theorem dX6_suspect_44 : decode cX6_suspect 44 = .ok (.invokevirtual 178, 3) := by decide +kernel
theorem dX6_suspect_47 : decode cX6_suspect 47 = .ok (.istore 4, 2) := by decide +kernel
theorem dX6_suspect_49 : decode cX6_suspect 49 = .ok (.aload_n 0, 1) := by decide +kernel
theorem dX6_suspect_50 : decode cX6_suspect 50 = .ok (.getfield 50, 3) := by decide +kernel
theorem dX6_suspect_53 : decode cX6_suspect 53 = .ok (.iload 4, 2) := by decide +kernel
theorem dX6_suspect_55 : decode cX6_suspect 55 = .ok (.invokestatic 181, 3) := by decide +kernel
theorem dX6_suspect_58 : decode cX6_suspect 58 = .ok (.istore 5, 2) := by decide +kernel
theorem dX6_suspect_60 : decode cX6_suspect 60 = .ok (.aload_n 0, 1) := by decide +kernel
theorem dX6_suspect_61 : decode cX6_suspect 61 = .ok (.getfield 50, 3) := by decide +kernel
theorem dX6_suspect_64 : decode cX6_suspect 64 = .ok (.iconst 0, 1) := by decide +kernel
theorem dX6_suspect_65 : decode cX6_suspect 65 = .ok (.iload 4, 2) := by decide +kernel
theorem dX6_suspect_67 : decode cX6_suspect 67 = .ok (.aload_n 0, 1) := by decide +kernel
theorem dX6_suspect_68 : decode cX6_suspect 68 = .ok (.getfield 50, 3) := by decide +kernel
theorem dX6_suspect_71 : decode cX6_suspect 71 = .ok (.iload 5, 2) := by decide +kernel
theorem dX6_suspect_73 : decode cX6_suspect 73 = .ok (.iaload, 1) := by decide +kernel
theorem dX6_suspect_74 : decode cX6_suspect 74 = .ok (.invokestatic 185, 3) := by decide +kernel
theorem dX6_suspect_77 : decode cX6_suspect 77 = .ok (.iload 4, 2) := by decide +kernel
theorem dX6_suspect_79 : decode cX6_suspect 79 = .ok (.aload_n 0, 1) := by decide +kernel
theorem dX6_suspect_80 : decode cX6_suspect 80 = .ok (.getfield 71, 3) := by decide +kernel
theorem dX6_suspect_83 : decode cX6_suspect 83 = .ok (.isub, 1) := by decide +kernel
theorem dX6_suspect_84 : decode cX6_suspect 84 = .ok (.if_icmp .ge 19, 3) := by decide +kernel
theorem dX6_suspect_87 : decode cX6_suspect 87 = .ok (.aload_n 0, 1) := by decide +kernel
theorem dX6_suspect_88 : decode cX6_suspect 88 = .ok (.getfield 38, 3) := by decide +kernel
theorem dX6_suspect_91 : decode cX6_suspect 91 = .ok (.iload_n 1, 1) := by decide +kernel
theorem dX6_suspect_92 : decode cX6_suspect 92 = .ok (.dup2, 1) := by decide +kernel
theorem dX6_suspect_93 : decode cX6_suspect 93 = .ok (.iaload, 1) := by decide +kernel
theorem dX6_suspect_94 : decode cX6_suspect 94 = .ok (.iconst 1, 1) := by decide +kernel
theorem dX6_suspect_95 : decode cX6_suspect 95 = .ok (.aload_n 0, 1) := by decide +kernel
theorem dX6_suspect_96 : decode cX6_suspect 96 = .ok (.iload_n 3, 1) := by decide +kernel
theorem dX6_suspect_97 : decode cX6_suspect 97 = .ok (.invokevirtual 135, 3) := by decide +kernel
theorem dX6_suspect_100 : decode cX6_suspect 100 = .ok (.ishl, 1) := by decide +kernel
theorem dX6_suspect_101 : decode cX6_suspect 101 = .ok (.ior, 1) := by decide +kernel
theorem dX6_suspect_102 : decode cX6_suspect 102 = .ok (.iastore, 1) := by decide +kernel
theorem dX6_suspect_103 : decode cX6_suspect 103 = .ok (.iinc 3 1, 3) := by decide +kernel
theorem dX6_suspect_106 : decode cX6_suspect 106 = .ok (.goto (-98), 3) := by decide +kernel
theorem dX6_suspect_109 : decode cX6_suspect 109 = .ok (.return_, 1) := by decide +kernel
theorem dX6_gather_0 : decode cX6_gather 0 = .ok (.iconst 0, 1) := by decide +kernel
theorem dX6_gather_1 : decode cX6_gather 1 = .ok (.istore 4, 2) := by decide +kernel
theorem dX6_gather_3 : decode cX6_gather 3 = .ok (.iconst 0, 1) := by decide +kernel
theorem dX6_gather_4 : decode cX6_gather 4 = .ok (.istore 5, 2) := by decide +kernel
theorem dX6_gather_6 : decode cX6_gather 6 = .ok (.iload 5, 2) := by decide +kernel
theorem dX6_gather_8 : decode cX6_gather 8 = .ok (.aload_n 0, 1) := by decide +kernel
theorem dX6_gather_9 : decode cX6_gather 9 = .ok (.getfield 67, 3) := by decide +kernel
theorem dX6_gather_12 : decode cX6_gather 12 = .ok (.if_icmp .ge 39, 3) := by decide +kernel
theorem dX6_gather_15 : decode cX6_gather 15 = .ok (.aload_n 0, 1) := by decide +kernel
theorem dX6_gather_16 : decode cX6_gather 16 = .ok (.iload_n 3, 1) := by decide +kernel
theorem dX6_gather_17 : decode cX6_gather 17 = .ok (.iload 5, 2) := by decide +kernel
theorem dX6_gather_19 : decode cX6_gather 19 = .ok (.invokevirtual 132, 3) := by decide +kernel
theorem dX6_gather_22 : decode cX6_gather 22 = .ok (.ifCond .ne 23, 3) := by decide +kernel
theorem dX6_gather_25 : decode cX6_gather 25 = .ok (.aload_n 0, 1) := by decide +kernel
theorem dX6_gather_26 : decode cX6_gather 26 = .ok (.getfield 50, 3) := by decide +kernel
theorem dX6_gather_29 : decode cX6_gather 29 = .ok (.iload 4, 2) := by decide +kernel
theorem dX6_gather_31 : decode cX6_gather 31 = .ok (.aload_n 1, 1) := by decide +kernel
theorem dX6_gather_32 : decode cX6_gather 32 = .ok (.iload_n 2, 1) := by decide +kernel
theorem dX6_gather_33 : decode cX6_gather 33 = .ok (.iload_n 3, 1) := by decide +kernel
theorem dX6_gather_34 : decode cX6_gather 34 = .ok (.iload 5, 2) := by decide +kernel
theorem dX6_gather_36 : decode cX6_gather 36 = .ok (.invokestatic 166, 3) := by decide +kernel
theorem dX6_gather_39 : decode cX6_gather 39 = .ok (.iadd, 1) := by decide +kernel
theorem dX6_gather_40 : decode cX6_gather 40 = .ok (.iaload, 1) := by decide +kernel
theorem dX6_gather_41 : decode cX6_gather 41 = .ok (.iastore, 1) := by decide +kernel
theorem dX6_gather_42 : decode cX6_gather 42 = .ok (.iinc 4 1, 3) := by decide +kernel
theorem dX6_gather_45 : decode cX6_gather 45 = .ok (.iinc 5 1, 3) := by decide +kernel
theorem dX6_gather_48 : decode cX6_gather 48 = .ok (.goto (-42), 3) := by decide +kernel
theorem dX6_gather_51 : decode cX6_gather 51 = .ok (.iload 4, 2) := by decide +kernel
theorem dX6_gather_53 : decode cX6_gather 53 = .ok (.ireturn, 1) := by decide +kernel
theorem dX6_resolve_0 : decode cX6_resolve 0 = .ok (.iload_n 2, 1) := by decide +kernel
theorem dX6_resolve_1 : decode cX6_resolve 1 = .ok (.istore 5, 2) := by decide +kernel
theorem dX6_resolve_3 : decode cX6_resolve 3 = .ok (.iload 5, 2) := by decide +kernel
theorem dX6_resolve_5 : decode cX6_resolve 5 = .ok (.iconst 1, 1) := by decide +kernel
theorem dX6_resolve_6 : decode cX6_resolve 6 = .ok (.if_icmp .lt 109, 3) := by decide +kernel
theorem dX6_resolve_9 : decode cX6_resolve 9 = .ok (.getstatic 139, 3) := by decide +kernel
theorem dX6_resolve_12 : decode cX6_resolve 12 = .ok (.iload 5, 2) := by decide +kernel
theorem dX6_resolve_14 : decode cX6_resolve 14 = .ok (.iaload, 1) := by decide +kernel
theorem dX6_resolve_15 : decode cX6_resolve 15 = .ok (.istore 6, 2) := by decide +kernel
theorem dX6_resolve_17 : decode cX6_resolve 17 = .ok (.iload 6, 2) := by decide +kernel
theorem dX6_resolve_19 : decode cX6_resolve 19 = .ok (.getstatic 139, 3) := by decide +kernel
theorem dX6_resolve_22 : decode cX6_resolve 22 = .ok (.iload 5, 2) := by decide +kernel
theorem dX6_resolve_24 : decode cX6_resolve 24 = .ok (.iconst 1, 1) := by decide +kernel
theorem dX6_resolve_25 : decode cX6_resolve 25 = .ok (.iadd, 1) := by decide +kernel
theorem dX6_resolve_26 : decode cX6_resolve 26 = .ok (.iaload, 1) := by decide +kernel
theorem dX6_resolve_27 : decode cX6_resolve 27 = .ok (.if_icmp .ge 82, 3) := by decide +kernel
theorem dX6_resolve_30 : decode cX6_resolve 30 = .ok (.aload_n 0, 1) := by decide +kernel
theorem dX6_resolve_31 : decode cX6_resolve 31 = .ok (.iload 6, 2) := by decide +kernel
theorem dX6_resolve_33 : decode cX6_resolve 33 = .ok (.invokevirtual 128, 3) := by decide +kernel
theorem dX6_resolve_36 : decode cX6_resolve 36 = .ok (.ifCond .eq 67, 3) := by decide +kernel
theorem dX6_resolve_39 : decode cX6_resolve 39 = .ok (.aload_n 0, 1) := by decide +kernel
theorem dX6_resolve_40 : decode cX6_resolve 40 = .ok (.iload_n 1, 1) := by decide +kernel
theorem dX6_resolve_41 : decode cX6_resolve 41 = .ok (.iload 6, 2) := by decide +kernel
theorem dX6_resolve_43 : decode cX6_resolve 43 = .ok (.invokevirtual 189, 3) := by decide +kernel
theorem dX6_resolve_46 : decode cX6_resolve 46 = .ok (.ifCond .eq 57, 3) := by decide +kernel
theorem dX6_resolve_49 : decode cX6_resolve 49 = .ok (.iload 5, 2) := by decide +kernel
theorem dX6_resolve_51 : decode cX6_resolve 51 = .ok (.iload_n 2, 1) := by decide +kernel
theorem dX6_resolve_52 : decode cX6_resolve 52 = .ok (.if_icmp .eq 13, 3) := by decide +kernel
theorem dX6_resolve_55 : decode cX6_resolve 55 = .ok (.aload_n 0, 1) := by decide +kernel
theorem dX6_resolve_56 : decode cX6_resolve 56 = .ok (.iload 6, 2) := by decide +kernel
theorem dX6_resolve_58 : decode cX6_resolve 58 = .ok (.invokevirtual 135, 3) := by decide +kernel
theorem dX6_resolve_61 : decode cX6_resolve 61 = .ok (.iload_n 1, 1) := by decide +kernel
theorem dX6_resolve_62 : decode cX6_resolve 62 = .ok (.if_icmp .ne 7, 3) := by decide +kernel
theorem dX6_resolve_65 : decode cX6_resolve 65 = .ok (.iconst 1, 1) := by decide +kernel
theorem dX6_resolve_66 : decode cX6_resolve 66 = .ok (.goto 4, 3) := by decide +kernel
theorem dX6_resolve_69 : decode cX6_resolve 69 = .ok (.iconst 0, 1) := by decide +kernel
theorem dX6_resolve_70 : decode cX6_resolve 70 = .ok (.istore 7, 2) := by decide +kernel
theorem dX6_resolve_72 : decode cX6_resolve 72 = .ok (.aload_n 3, 1) := by decide +kernel
theorem dX6_resolve_73 : decode cX6_resolve 73 = .ok (.iload 4, 2) := by decide +kernel
theorem dX6_resolve_75 : decode cX6_resolve 75 = .ok (.iload 6, 2) := by decide +kernel
theorem dX6_resolve_77 : decode cX6_resolve 77 = .ok (.iadd, 1) := by decide +kernel
theorem dX6_resolve_78 : decode cX6_resolve 78 = .ok (.iload 7, 2) := by decide +kernel
theorem dX6_resolve_80 : decode cX6_resolve 80 = .ok (.ifCond .eq 13, 3) := by decide +kernel
theorem dX6_resolve_83 : decode cX6_resolve 83 = .ok (.aload_n 0, 1) := by decide +kernel
theorem dX6_resolve_84 : decode cX6_resolve 84 = .ok (.iload_n 1, 1) := by decide +kernel
theorem dX6_resolve_85 : decode cX6_resolve 85 = .ok (.iload 6, 2) := by decide +kernel
theorem dX6_resolve_87 : decode cX6_resolve 87 = .ok (.invokevirtual 163, 3) := by decide +kernel
theorem dX6_resolve_90 : decode cX6_resolve 90 = .ok (.goto 12, 3) := by decide +kernel
theorem dX6_resolve_93 : decode cX6_resolve 93 = .ok (.aload_n 0, 1) := by decide +kernel
theorem dX6_resolve_94 : decode cX6_resolve 94 = .ok (.aload_n 3, 1) := by decide +kernel
theorem dX6_resolve_95 : decode cX6_resolve 95 = .ok (.iload 4, 2) := by decide +kernel
theorem dX6_resolve_97 : decode cX6_resolve 97 = .ok (.iload 6, 2) := by decide +kernel
theorem dX6_resolve_99 : decode cX6_resolve 99 = .ok (.invokevirtual 192, 3) := by decide +kernel
theorem dX6_resolve_102 : decode cX6_resolve 102 = .ok (.iastore, 1) := by decide +kernel
theorem dX6_resolve_103 : decode cX6_resolve 103 = .ok (.iinc 6 1, 3) := by decide +kernel
theorem dX6_resolve_106 : decode cX6_resolve 106 = .ok (.goto (-89), 3) := by decide +kernel
theorem dX6_resolve_109 : decode cX6_resolve 109 = .ok (.iinc 5 (-1), 3) := by decide +kernel
theorem dX6_resolve_112 : decode cX6_resolve 112 = .ok (.goto (-109), 3) := by decide +kernel
theorem dX6_resolve_115 : decode cX6_resolve 115 = .ok (.return_, 1) := by decide +kernel
theorem dX6_majority_0 : decode cX6_majority 0 = .ok (.aload_n 0, 1) := by decide +kernel
theorem dX6_majority_1 : decode cX6_majority 1 = .ok (.aload_n 1, 1) := by decide +kernel
theorem dX6_majority_2 : decode cX6_majority 2 = .ok (.iload_n 2, 1) := by decide +kernel
theorem dX6_majority_3 : decode cX6_majority 3 = .ok (.iload_n 3, 1) := by decide +kernel
theorem dX6_majority_4 : decode cX6_majority 4 = .ok (.invokevirtual 178, 3) := by decide +kernel
theorem dX6_majority_7 : decode cX6_majority 7 = .ok (.istore 4, 2) := by decide +kernel
theorem dX6_majority_9 : decode cX6_majority 9 = .ok (.aload_n 0, 1) := by decide +kernel
theorem dX6_majority_10 : decode cX6_majority 10 = .ok (.getfield 50, 3) := by decide +kernel
theorem dX6_majority_13 : decode cX6_majority 13 = .ok (.iload 4, 2) := by decide +kernel
theorem dX6_majority_15 : decode cX6_majority 15 = .ok (.invokestatic 181, 3) := by decide +kernel
theorem dX6_majority_18 : decode cX6_majority 18 = .ok (.istore 5, 2) := by decide +kernel
theorem dX6_majority_20 : decode cX6_majority 20 = .ok (.iconst 2, 1) := by decide +kernel
theorem dX6_majority_21 : decode cX6_majority 21 = .ok (.aload_n 0, 1) := by decide +kernel
theorem dX6_majority_22 : decode cX6_majority 22 = .ok (.getfield 50, 3) := by decide +kernel
theorem dX6_majority_25 : decode cX6_majority 25 = .ok (.iconst 0, 1) := by decide +kernel
theorem dX6_majority_26 : decode cX6_majority 26 = .ok (.iload 4, 2) := by decide +kernel
theorem dX6_majority_28 : decode cX6_majority 28 = .ok (.aload_n 0, 1) := by decide +kernel
theorem dX6_majority_29 : decode cX6_majority 29 = .ok (.getfield 50, 3) := by decide +kernel
theorem dX6_majority_32 : decode cX6_majority 32 = .ok (.iload 5, 2) := by decide +kernel
theorem dX6_majority_34 : decode cX6_majority 34 = .ok (.iaload, 1) := by decide +kernel
theorem dX6_majority_35 : decode cX6_majority 35 = .ok (.invokestatic 185, 3) := by decide +kernel
theorem dX6_majority_38 : decode cX6_majority 38 = .ok (.imul, 1) := by decide +kernel
theorem dX6_majority_39 : decode cX6_majority 39 = .ok (.iload 4, 2) := by decide +kernel
theorem dX6_majority_41 : decode cX6_majority 41 = .ok (.if_icmp .le 13, 3) := by decide +kernel
theorem dX6_majority_44 : decode cX6_majority 44 = .ok (.aload_n 0, 1) := by decide +kernel
theorem dX6_majority_45 : decode cX6_majority 45 = .ok (.getfield 50, 3) := by decide +kernel
theorem dX6_majority_48 : decode cX6_majority 48 = .ok (.iload 5, 2) := by decide +kernel
theorem dX6_majority_50 : decode cX6_majority 50 = .ok (.iaload, 1) := by decide +kernel
theorem dX6_majority_51 : decode cX6_majority 51 = .ok (.goto 7, 3) := by decide +kernel
theorem dX6_majority_54 : decode cX6_majority 54 = .ok (.aload_n 0, 1) := by decide +kernel
theorem dX6_majority_55 : decode cX6_majority 55 = .ok (.getfield 75, 3) := by decide +kernel
theorem dX6_majority_58 : decode cX6_majority 58 = .ok (.ireturn, 1) := by decide +kernel
theorem dX6_layPaths_0 : decode cX6_layPaths 0 = .ok (.iconst 0, 1) := by decide +kernel
theorem dX6_layPaths_1 : decode cX6_layPaths 1 = .ok (.istore_n 1, 1) := by decide +kernel
theorem dX6_layPaths_2 : decode cX6_layPaths 2 = .ok (.iload_n 1, 1) := by decide +kernel
theorem dX6_layPaths_3 : decode cX6_layPaths 3 = .ok (.bipush 57, 2) := by decide +kernel
theorem dX6_layPaths_5 : decode cX6_layPaths 5 = .ok (.if_icmp .ge 85, 3) := by decide +kernel
theorem dX6_layPaths_8 : decode cX6_layPaths 8 = .ok (.iload_n 1, 1) := by decide +kernel
theorem dX6_layPaths_9 : decode cX6_layPaths 9 = .ok (.ifCond .ne 7, 3) := by decide +kernel
theorem dX6_layPaths_12 : decode cX6_layPaths 12 = .ok (.iconst 1, 1) := by decide +kernel
theorem dX6_layPaths_13 : decode cX6_layPaths 13 = .ok (.goto 14, 3) := by decide +kernel
theorem dX6_layPaths_16 : decode cX6_layPaths 16 = .ok (.iload_n 1, 1) := by decide +kernel
theorem dX6_layPaths_17 : decode cX6_layPaths 17 = .ok (.bipush 8, 2) := by decide +kernel
theorem dX6_layPaths_19 : decode cX6_layPaths 19 = .ok (.if_icmp .ge 7, 3) := by decide +kernel
theorem dX6_layPaths_22 : decode cX6_layPaths 22 = .ok (.iconst 2, 1) := by decide +kernel
theorem dX6_layPaths_23 : decode cX6_layPaths 23 = .ok (.goto 4, 3) := by decide +kernel
theorem dX6_layPaths_26 : decode cX6_layPaths 26 = .ok (.iconst 3, 1) := by decide +kernel
theorem dX6_layPaths_27 : decode cX6_layPaths 27 = .ok (.istore_n 2, 1) := by decide +kernel
theorem dX6_layPaths_28 : decode cX6_layPaths 28 = .ok (.iconst 1, 1) := by decide +kernel
theorem dX6_layPaths_29 : decode cX6_layPaths 29 = .ok (.aload_n 0, 1) := by decide +kernel
theorem dX6_layPaths_30 : decode cX6_layPaths 30 = .ok (.getfield 9, 3) := by decide +kernel
theorem dX6_layPaths_33 : decode cX6_layPaths 33 = .ok (.ishl, 1) := by decide +kernel
theorem dX6_layPaths_34 : decode cX6_layPaths 34 = .ok (.istore_n 3, 1) := by decide +kernel
theorem dX6_layPaths_35 : decode cX6_layPaths 35 = .ok (.iload_n 1, 1) := by decide +kernel
theorem dX6_layPaths_36 : decode cX6_layPaths 36 = .ok (.ifCond .le 20, 3) := by decide +kernel
theorem dX6_layPaths_39 : decode cX6_layPaths 39 = .ok (.iload_n 3, 1) := by decide +kernel
theorem dX6_layPaths_40 : decode cX6_layPaths 40 = .ok (.iconst 1, 1) := by decide +kernel
theorem dX6_layPaths_41 : decode cX6_layPaths 41 = .ok (.iload_n 1, 1) := by decide +kernel
theorem dX6_layPaths_42 : decode cX6_layPaths 42 = .ok (.invokestatic 148, 3) := by decide +kernel
theorem dX6_layPaths_45 : decode cX6_layPaths 45 = .ok (.ishl, 1) := by decide +kernel
theorem dX6_layPaths_46 : decode cX6_layPaths 46 = .ok (.iconst 1, 1) := by decide +kernel
theorem dX6_layPaths_47 : decode cX6_layPaths 47 = .ok (.aload_n 0, 1) := by decide +kernel
theorem dX6_layPaths_48 : decode cX6_layPaths 48 = .ok (.iload_n 1, 1) := by decide +kernel
theorem dX6_layPaths_49 : decode cX6_layPaths 49 = .ok (.invokevirtual 135, 3) := by decide +kernel
theorem dX6_layPaths_52 : decode cX6_layPaths 52 = .ok (.ishl, 1) := by decide +kernel
theorem dX6_layPaths_53 : decode cX6_layPaths 53 = .ok (.ior, 1) := by decide +kernel
theorem dX6_layPaths_54 : decode cX6_layPaths 54 = .ok (.ior, 1) := by decide +kernel
theorem dX6_layPaths_55 : decode cX6_layPaths 55 = .ok (.istore_n 3, 1) := by decide +kernel
theorem dX6_layPaths_56 : decode cX6_layPaths 56 = .ok (.aload_n 0, 1) := by decide +kernel
theorem dX6_layPaths_57 : decode cX6_layPaths 57 = .ok (.getfield 47, 3) := by decide +kernel
theorem dX6_layPaths_60 : decode cX6_layPaths 60 = .ok (.iload_n 1, 1) := by decide +kernel
theorem dX6_layPaths_61 : decode cX6_layPaths 61 = .ok (.iload_n 3, 1) := by decide +kernel
theorem dX6_layPaths_62 : decode cX6_layPaths 62 = .ok (.invokestatic 173, 3) := by decide +kernel
theorem dX6_layPaths_65 : decode cX6_layPaths 65 = .ok (.iload_n 2, 1) := by decide +kernel
theorem dX6_layPaths_66 : decode cX6_layPaths 66 = .ok (.if_icmp .ne 16, 3) := by decide +kernel
theorem dX6_layPaths_69 : decode cX6_layPaths 69 = .ok (.iload_n 3, 1) := by decide +kernel
theorem dX6_layPaths_70 : decode cX6_layPaths 70 = .ok (.aload_n 0, 1) := by decide +kernel
theorem dX6_layPaths_71 : decode cX6_layPaths 71 = .ok (.getfield 67, 3) := by decide +kernel
theorem dX6_layPaths_74 : decode cX6_layPaths 74 = .ok (.ishr, 1) := by decide +kernel
theorem dX6_layPaths_75 : decode cX6_layPaths 75 = .ok (.ifCond .ne 7, 3) := by decide +kernel
theorem dX6_layPaths_78 : decode cX6_layPaths 78 = .ok (.iload_n 3, 1) := by decide +kernel
theorem dX6_layPaths_79 : decode cX6_layPaths 79 = .ok (.goto 4, 3) := by decide +kernel
theorem dX6_layPaths_82 : decode cX6_layPaths 82 = .ok (.iconst 0, 1) := by decide +kernel
theorem dX6_layPaths_83 : decode cX6_layPaths 83 = .ok (.iastore, 1) := by decide +kernel
theorem dX6_layPaths_84 : decode cX6_layPaths 84 = .ok (.iinc 1 1, 3) := by decide +kernel
theorem dX6_layPaths_87 : decode cX6_layPaths 87 = .ok (.goto (-85), 3) := by decide +kernel
theorem dX6_layPaths_90 : decode cX6_layPaths 90 = .ok (.return_, 1) := by decide +kernel
theorem dX6_isPath_0 : decode cX6_isPath 0 = .ok (.aload_n 0, 1) := by decide +kernel
theorem dX6_isPath_1 : decode cX6_isPath 1 = .ok (.getfield 47, 3) := by decide +kernel
theorem dX6_isPath_4 : decode cX6_isPath 4 = .ok (.iload_n 1, 1) := by decide +kernel
theorem dX6_isPath_5 : decode cX6_isPath 5 = .ok (.iaload, 1) := by decide +kernel
theorem dX6_isPath_6 : decode cX6_isPath 6 = .ok (.ifCond .eq 7, 3) := by decide +kernel
theorem dX6_isPath_9 : decode cX6_isPath 9 = .ok (.iconst 1, 1) := by decide +kernel
theorem dX6_isPath_10 : decode cX6_isPath 10 = .ok (.goto 4, 3) := by decide +kernel
theorem dX6_isPath_13 : decode cX6_isPath 13 = .ok (.iconst 0, 1) := by decide +kernel
theorem dX6_isPath_14 : decode cX6_isPath 14 = .ok (.ireturn, 1) := by decide +kernel
theorem dX6_isOn_0 : decode cX6_isOn 0 = .ok (.aload_n 0, 1) := by decide +kernel
theorem dX6_isOn_1 : decode cX6_isOn 1 = .ok (.getfield 47, 3) := by decide +kernel
theorem dX6_isOn_4 : decode cX6_isOn 4 = .ok (.iload_n 1, 1) := by decide +kernel
theorem dX6_isOn_5 : decode cX6_isOn 5 = .ok (.iaload, 1) := by decide +kernel
theorem dX6_isOn_6 : decode cX6_isOn 6 = .ok (.iload_n 2, 1) := by decide +kernel
theorem dX6_isOn_7 : decode cX6_isOn 7 = .ok (.ishr, 1) := by decide +kernel
theorem dX6_isOn_8 : decode cX6_isOn 8 = .ok (.iconst 1, 1) := by decide +kernel
theorem dX6_isOn_9 : decode cX6_isOn 9 = .ok (.iand, 1) := by decide +kernel
theorem dX6_isOn_10 : decode cX6_isOn 10 = .ok (.ifCond .eq 7, 3) := by decide +kernel
theorem dX6_isOn_13 : decode cX6_isOn 13 = .ok (.iconst 1, 1) := by decide +kernel
theorem dX6_isOn_14 : decode cX6_isOn 14 = .ok (.goto 4, 3) := by decide +kernel
theorem dX6_isOn_17 : decode cX6_isOn 17 = .ok (.iconst 0, 1) := by decide +kernel
theorem dX6_isOn_18 : decode cX6_isOn 18 = .ok (.ireturn, 1) := by decide +kernel
theorem dX6_secondOf_0 : decode cX6_secondOf 0 = .ok (.iload_n 0, 1) := by decide +kernel
theorem dX6_secondOf_1 : decode cX6_secondOf 1 = .ok (.bipush 8, 2) := by decide +kernel
theorem dX6_secondOf_3 : decode cX6_secondOf 3 = .ok (.if_icmp .ge 9, 3) := by decide +kernel
theorem dX6_secondOf_6 : decode cX6_secondOf 6 = .ok (.iload_n 0, 1) := by decide +kernel
theorem dX6_secondOf_7 : decode cX6_secondOf 7 = .ok (.iconst 1, 1) := by decide +kernel
theorem dX6_secondOf_8 : decode cX6_secondOf 8 = .ok (.isub, 1) := by decide +kernel
theorem dX6_secondOf_9 : decode cX6_secondOf 9 = .ok (.goto 10, 3) := by decide +kernel
theorem dX6_secondOf_12 : decode cX6_secondOf 12 = .ok (.iload_n 0, 1) := by decide +kernel
theorem dX6_secondOf_13 : decode cX6_secondOf 13 = .ok (.bipush 8, 2) := by decide +kernel
theorem dX6_secondOf_15 : decode cX6_secondOf 15 = .ok (.isub, 1) := by decide +kernel
theorem dX6_secondOf_16 : decode cX6_secondOf 16 = .ok (.bipush 7, 2) := by decide +kernel
theorem dX6_secondOf_18 : decode cX6_secondOf 18 = .ok (.idiv, 1) := by decide +kernel
theorem dX6_secondOf_19 : decode cX6_secondOf 19 = .ok (.ireturn, 1) := by decide +kernel
theorem dX6_lastOf_0 : decode cX6_lastOf 0 = .ok (.iload_n 1, 1) := by decide +kernel
theorem dX6_lastOf_1 : decode cX6_lastOf 1 = .ok (.ifCond .ne 8, 3) := by decide +kernel
theorem dX6_lastOf_4 : decode cX6_lastOf 4 = .ok (.aload_n 0, 1) := by decide +kernel
theorem dX6_lastOf_5 : decode cX6_lastOf 5 = .ok (.getfield 9, 3) := by decide +kernel
theorem dX6_lastOf_8 : decode cX6_lastOf 8 = .ok (.ireturn, 1) := by decide +kernel
theorem dX6_lastOf_9 : decode cX6_lastOf 9 = .ok (.iload_n 1, 1) := by decide +kernel
theorem dX6_lastOf_10 : decode cX6_lastOf 10 = .ok (.bipush 8, 2) := by decide +kernel
theorem dX6_lastOf_12 : decode cX6_lastOf 12 = .ok (.if_icmp .ge 9, 3) := by decide +kernel
theorem dX6_lastOf_15 : decode cX6_lastOf 15 = .ok (.iload_n 1, 1) := by decide +kernel
theorem dX6_lastOf_16 : decode cX6_lastOf 16 = .ok (.iconst 1, 1) := by decide +kernel
theorem dX6_lastOf_17 : decode cX6_lastOf 17 = .ok (.isub, 1) := by decide +kernel
theorem dX6_lastOf_18 : decode cX6_lastOf 18 = .ok (.goto 10, 3) := by decide +kernel
theorem dX6_lastOf_21 : decode cX6_lastOf 21 = .ok (.iload_n 1, 1) := by decide +kernel
theorem dX6_lastOf_22 : decode cX6_lastOf 22 = .ok (.bipush 8, 2) := by decide +kernel
theorem dX6_lastOf_24 : decode cX6_lastOf 24 = .ok (.isub, 1) := by decide +kernel
theorem dX6_lastOf_25 : decode cX6_lastOf 25 = .ok (.bipush 7, 2) := by decide +kernel
theorem dX6_lastOf_27 : decode cX6_lastOf 27 = .ok (.irem, 1) := by decide +kernel
theorem dX6_lastOf_28 : decode cX6_lastOf 28 = .ok (.ireturn, 1) := by decide +kernel
theorem dX6_longerBy_0 : decode cX6_longerBy 0 = .ok (.iload_n 0, 1) := by decide +kernel
theorem dX6_longerBy_1 : decode cX6_longerBy 1 = .ok (.ifCond .ne 9, 3) := by decide +kernel
theorem dX6_longerBy_4 : decode cX6_longerBy 4 = .ok (.iconst 1, 1) := by decide +kernel
theorem dX6_longerBy_5 : decode cX6_longerBy 5 = .ok (.iload_n 1, 1) := by decide +kernel
theorem dX6_longerBy_6 : decode cX6_longerBy 6 = .ok (.iadd, 1) := by decide +kernel
theorem dX6_longerBy_7 : decode cX6_longerBy 7 = .ok (.goto 14, 3) := by decide +kernel
theorem dX6_longerBy_10 : decode cX6_longerBy 10 = .ok (.bipush 8, 2) := by decide +kernel
theorem dX6_longerBy_12 : decode cX6_longerBy 12 = .ok (.bipush 7, 2) := by decide +kernel
theorem dX6_longerBy_14 : decode cX6_longerBy 14 = .ok (.iload_n 0, 1) := by decide +kernel
theorem dX6_longerBy_15 : decode cX6_longerBy 15 = .ok (.iconst 1, 1) := by decide +kernel
theorem dX6_longerBy_16 : decode cX6_longerBy 16 = .ok (.isub, 1) := by decide +kernel
theorem dX6_longerBy_17 : decode cX6_longerBy 17 = .ok (.imul, 1) := by decide +kernel
theorem dX6_longerBy_18 : decode cX6_longerBy 18 = .ok (.iadd, 1) := by decide +kernel
theorem dX6_longerBy_19 : decode cX6_longerBy 19 = .ok (.iload_n 1, 1) := by decide +kernel
theorem dX6_longerBy_20 : decode cX6_longerBy 20 = .ok (.iadd, 1) := by decide +kernel
theorem dX6_longerBy_21 : decode cX6_longerBy 21 = .ok (.ireturn, 1) := by decide +kernel
theorem dX7_init_0 : decode cX7_init 0 = .ok (.aload_n 0, 1) := by decide +kernel
theorem dX7_init_1 : decode cX7_init 1 = .ok (.invokespecial 3, 3) := by decide +kernel
theorem dX7_init_4 : decode cX7_init 4 = .ok (.aload_n 0, 1) := by decide +kernel
theorem dX7_init_5 : decode cX7_init 5 = .ok (.iconst (-1), 1) := by decide +kernel
theorem dX7_init_6 : decode cX7_init 6 = .ok (.putfield 9, 3) := by decide +kernel
theorem dX7_init_9 : decode cX7_init 9 = .ok (.aload_n 0, 1) := by decide +kernel
theorem dX7_init_10 : decode cX7_init 10 = .ok (.new 15, 3) := by decide +kernel
theorem dX7_init_13 : decode cX7_init 13 = .ok (.dup, 1) := by decide +kernel
theorem dX7_init_14 : decode cX7_init 14 = .ok (.invokespecial 17, 3) := by decide +kernel
theorem dX7_init_17 : decode cX7_init 17 = .ok (.putfield 18, 3) := by decide +kernel
theorem dX7_init_20 : decode cX7_init 20 = .ok (.aload_n 0, 1) := by decide +kernel
theorem dX7_init_21 : decode cX7_init 21 = .ok (.sipush 300, 3) := by decide +kernel
theorem dX7_init_24 : decode cX7_init 24 = .ok (.newarray .int, 2) := by decide +kernel
theorem dX7_init_26 : decode cX7_init 26 = .ok (.putfield 22, 3) := by decide +kernel
theorem dX7_init_29 : decode cX7_init 29 = .ok (.return_, 1) := by decide +kernel
theorem dX7_hasRoom_0 : decode cX7_hasRoom 0 = .ok (.aload_n 0, 1) := by decide +kernel
theorem dX7_hasRoom_1 : decode cX7_hasRoom 1 = .ok (.getfield 26, 3) := by decide +kernel
theorem dX7_hasRoom_4 : decode cX7_hasRoom 4 = .ok (.sipush 280, 3) := by decide +kernel
theorem dX7_hasRoom_7 : decode cX7_hasRoom 7 = .ok (.if_icmp .gt 7, 3) := by decide +kernel
theorem dX7_hasRoom_10 : decode cX7_hasRoom 10 = .ok (.iconst 1, 1) := by decide +kernel
theorem dX7_hasRoom_11 : decode cX7_hasRoom 11 = .ok (.goto 4, 3) := by decide +kernel
theorem dX7_hasRoom_14 : decode cX7_hasRoom 14 = .ok (.iconst 0, 1) := by decide +kernel
theorem dX7_hasRoom_15 : decode cX7_hasRoom 15 = .ok (.ireturn, 1) := by decide +kernel
theorem dX7_append_0 : decode cX7_append 0 = .ok (.bipush 24, 2) := by decide +kernel
theorem dX7_append_2 : decode cX7_append 2 = .ok (.istore_n 2, 1) := by decide +kernel
theorem dX7_append_3 : decode cX7_append 3 = .ok (.iload_n 2, 1) := by decide +kernel
theorem dX7_append_4 : decode cX7_append 4 = .ok (.ifCond .lt 45, 3) := by decide +kernel
theorem dX7_append_7 : decode cX7_append 7 = .ok (.aload_n 0, 1) := by decide +kernel
theorem dX7_append_8 : decode cX7_append 8 = .ok (.getfield 26, 3) := by decide +kernel
theorem dX7_append_11 : decode cX7_append 11 = .ok (.sipush 300, 3) := by decide +kernel
theorem dX7_append_14 : decode cX7_append 14 = .ok (.if_icmp .ge 35, 3) := by decide +kernel
theorem dX7_append_17 : decode cX7_append 17 = .ok (.aload_n 0, 1) := by decide +kernel
theorem dX7_append_18 : decode cX7_append 18 = .ok (.getfield 22, 3) := by decide +kernel
theorem dX7_append_21 : decode cX7_append 21 = .ok (.aload_n 0, 1) := by decide +kernel
theorem dX7_append_22 : decode cX7_append 22 = .ok (.getfield 26, 3) := by decide +kernel
theorem dX7_append_25 : decode cX7_append 25 = .ok (.iload_n 1, 1) := by decide +kernel
theorem dX7_append_26 : decode cX7_append 26 = .ok (.iload_n 2, 1) := by decide +kernel
theorem dX7_append_27 : decode cX7_append 27 = .ok (.ishr, 1) := by decide +kernel
theorem dX7_append_28 : decode cX7_append 28 = .ok (.sipush 255, 3) := by decide +kernel
theorem dX7_append_31 : decode cX7_append 31 = .ok (.iand, 1) := by decide +kernel
theorem dX7_append_32 : decode cX7_append 32 = .ok (.iastore, 1) := by decide +kernel
theorem dX7_append_33 : decode cX7_append 33 = .ok (.aload_n 0, 1) := by decide +kernel
theorem dX7_append_34 : decode cX7_append 34 = .ok (.dup, 1) := by decide +kernel
theorem dX7_append_35 : decode cX7_append 35 = .ok (.getfield 26, 3) := by decide +kernel
theorem dX7_append_38 : decode cX7_append 38 = .ok (.iconst 1, 1) := by decide +kernel
theorem dX7_append_39 : decode cX7_append 39 = .ok (.iadd, 1) := by decide +kernel
theorem dX7_append_40 : decode cX7_append 40 = .ok (.putfield 26, 3) := by decide +kernel
theorem dX7_append_43 : decode cX7_append 43 = .ok (.iinc 2 (-8), 3) := by decide +kernel
theorem dX7_append_46 : decode cX7_append 46 = .ok (.goto (-43), 3) := by decide +kernel
theorem dX7_append_49 : decode cX7_append 49 = .ok (.return_, 1) := by decide +kernel
theorem dX7_read_0 : decode cX7_read 0 = .ok (.aload_n 0, 1) := by decide +kernel
theorem dX7_read_1 : decode cX7_read 1 = .ok (.iconst 0, 1) := by decide +kernel
theorem dX7_read_2 : decode cX7_read 2 = .ok (.putfield 29, 3) := by decide +kernel
theorem dX7_read_5 : decode cX7_read 5 = .ok (.aload_n 0, 1) := by decide +kernel
theorem dX7_read_6 : decode cX7_read 6 = .ok (.iload_n 1, 1) := by decide +kernel
theorem dX7_read_7 : decode cX7_read 7 = .ok (.putfield 32, 3) := by decide +kernel
theorem dX7_read_10 : decode cX7_read 10 = .ok (.aload_n 0, 1) := by decide +kernel
theorem dX7_read_11 : decode cX7_read 11 = .ok (.iload_n 2, 1) := by decide +kernel
theorem dX7_read_12 : decode cX7_read 12 = .ok (.putfield 35, 3) := by decide +kernel
theorem dX7_read_15 : decode cX7_read 15 = .ok (.aload_n 0, 1) := by decide +kernel
theorem dX7_read_16 : decode cX7_read 16 = .ok (.iconst 0, 1) := by decide +kernel
theorem dX7_read_17 : decode cX7_read 17 = .ok (.putfield 38, 3) := by decide +kernel
theorem dX7_read_20 : decode cX7_read 20 = .ok (.aload_n 0, 1) := by decide +kernel
theorem dX7_read_21 : decode cX7_read 21 = .ok (.iconst (-1), 1) := by decide +kernel
theorem dX7_read_22 : decode cX7_read 22 = .ok (.putfield 9, 3) := by decide +kernel
theorem dX7_read_25 : decode cX7_read 25 = .ok (.aload_n 0, 1) := by decide +kernel
theorem dX7_read_26 : decode cX7_read 26 = .ok (.iconst 0, 1) := by decide +kernel
theorem dX7_read_27 : decode cX7_read 27 = .ok (.putfield 26, 3) := by decide +kernel
theorem dX7_read_30 : decode cX7_read 30 = .ok (.aload_n 0, 1) := by decide +kernel
theorem dX7_read_31 : decode cX7_read 31 = .ok (.getfield 18, 3) := by decide +kernel
theorem dX7_read_34 : decode cX7_read 34 = .ok (.invokevirtual 41, 3) := by decide +kernel
theorem dX7_read_37 : decode cX7_read 37 = .ok (.iconst 0, 1) := by decide +kernel
theorem dX7_read_38 : decode cX7_read 38 = .ok (.istore_n 3, 1) := by decide +kernel
theorem dX7_read_39 : decode cX7_read 39 = .ok (.iload_n 3, 1) := by decide +kernel
theorem dX7_read_40 : decode cX7_read 40 = .ok (.sipush 300, 3) := by decide +kernel
theorem dX7_read_43 : decode cX7_read 43 = .ok (.if_icmp .gt 31, 3) := by decide +kernel
theorem dX7_read_46 : decode cX7_read 46 = .ok (.aload_n 0, 1) := by decide +kernel
theorem dX7_read_47 : decode cX7_read 47 = .ok (.getfield 38, 3) := by decide +kernel
theorem dX7_read_50 : decode cX7_read 50 = .ok (.ifCond .ne 24, 3) := by decide +kernel
theorem dX7_read_53 : decode cX7_read 53 = .ok (.aload_n 0, 1) := by decide +kernel
theorem dX7_read_54 : decode cX7_read 54 = .ok (.invokevirtual 44, 3) := by decide +kernel
theorem dX7_read_57 : decode cX7_read 57 = .ok (.aload_n 0, 1) := by decide +kernel
theorem dX7_read_58 : decode cX7_read 58 = .ok (.getfield 32, 3) := by decide +kernel
theorem dX7_read_61 : decode cX7_read 61 = .ok (.if_icmp .ge 13, 3) := by decide +kernel
theorem dX7_read_64 : decode cX7_read 64 = .ok (.aload_n 0, 1) := by decide +kernel
theorem dX7_read_65 : decode cX7_read 65 = .ok (.invokevirtual 48, 3) := by decide +kernel
theorem dX7_read_68 : decode cX7_read 68 = .ok (.iinc 3 1, 3) := by decide +kernel
theorem dX7_read_71 : decode cX7_read 71 = .ok (.goto (-32), 3) := by decide +kernel
theorem dX7_read_74 : decode cX7_read 74 = .ok (.aload_n 0, 1) := by decide +kernel
theorem dX7_read_75 : decode cX7_read 75 = .ok (.getfield 38, 3) := by decide +kernel
theorem dX7_read_78 : decode cX7_read 78 = .ok (.ireturn, 1) := by decide +kernel
theorem dX7_readLiar_0 : decode cX7_readLiar 0 = .ok (.aload_n 0, 1) := by decide +kernel
theorem dX7_readLiar_1 : decode cX7_readLiar 1 = .ok (.ldc 51, 2) := by decide +kernel
theorem dX7_readLiar_3 : decode cX7_readLiar 3 = .ok (.invokevirtual 53, 3) := by decide +kernel
theorem dX7_readLiar_6 : decode cX7_readLiar 6 = .ok (.ifCond .ne 12, 3) := by decide +kernel
theorem dX7_readLiar_9 : decode cX7_readLiar 9 = .ok (.aload_n 0, 1) := by decide +kernel
theorem dX7_readLiar_10 : decode cX7_readLiar 10 = .ok (.iconst 1, 1) := by decide +kernel
theorem dX7_readLiar_11 : decode cX7_readLiar 11 = .ok (.aload_n 0, 1) := by decide +kernel
theorem dX7_readLiar_12 : decode cX7_readLiar 12 = .ok (.getfield 29, 3) := by decide +kernel
theorem dX7_readLiar_15 : decode cX7_readLiar 15 = .ok (.invokevirtual 57, 3) := by decide +kernel
theorem dX7_readLiar_18 : decode cX7_readLiar 18 = .ok (.aload_n 0, 1) := by decide +kernel
theorem dX7_readLiar_19 : decode cX7_readLiar 19 = .ok (.invokevirtual 44, 3) := by decide +kernel
theorem dX7_readLiar_22 : decode cX7_readLiar 22 = .ok (.istore_n 1, 1) := by decide +kernel
theorem dX7_readLiar_23 : decode cX7_readLiar 23 = .ok (.aload_n 0, 1) := by decide +kernel
theorem dX7_readLiar_24 : decode cX7_readLiar 24 = .ok (.iconst 0, 1) := by decide +kernel
theorem dX7_readLiar_25 : decode cX7_readLiar 25 = .ok (.aload_n 0, 1) := by decide +kernel
theorem dX7_readLiar_26 : decode cX7_readLiar 26 = .ok (.getfield 35, 3) := by decide +kernel
theorem dX7_readLiar_29 : decode cX7_readLiar 29 = .ok (.iconst 1, 1) := by decide +kernel
theorem dX7_readLiar_30 : decode cX7_readLiar 30 = .ok (.isub, 1) := by decide +kernel
theorem dX7_readLiar_31 : decode cX7_readLiar 31 = .ok (.invokevirtual 61, 3) := by decide +kernel
theorem dX7_readLiar_34 : decode cX7_readLiar 34 = .ok (.istore_n 2, 1) := by decide +kernel
theorem dX7_readLiar_35 : decode cX7_readLiar 35 = .ok (.aload_n 0, 1) := by decide +kernel
theorem dX7_readLiar_36 : decode cX7_readLiar 36 = .ok (.getfield 38, 3) := by decide +kernel
theorem dX7_readLiar_39 : decode cX7_readLiar 39 = .ok (.ifCond .ne 20, 3) := by decide +kernel
theorem dX7_readLiar_42 : decode cX7_readLiar 42 = .ok (.aload_n 0, 1) := by decide +kernel
theorem dX7_readLiar_43 : decode cX7_readLiar 43 = .ok (.getfield 18, 3) := by decide +kernel
theorem dX7_readLiar_46 : decode cX7_readLiar 46 = .ok (.iload_n 2, 1) := by decide +kernel
theorem dX7_readLiar_47 : decode cX7_readLiar 47 = .ok (.invokevirtual 65, 3) := by decide +kernel
theorem dX7_readLiar_50 : decode cX7_readLiar 50 = .ok (.ifCond .eq 9, 3) := by decide +kernel
theorem dX7_readLiar_53 : decode cX7_readLiar 53 = .ok (.aload_n 0, 1) := by decide +kernel
theorem dX7_readLiar_54 : decode cX7_readLiar 54 = .ok (.iconst 4, 1) := by decide +kernel
theorem dX7_readLiar_55 : decode cX7_readLiar 55 = .ok (.iload_n 1, 1) := by decide +kernel
theorem dX7_readLiar_56 : decode cX7_readLiar 56 = .ok (.invokevirtual 57, 3) := by decide +kernel
theorem dX7_readLiar_59 : decode cX7_readLiar 59 = .ok (.aload_n 0, 1) := by decide +kernel
theorem dX7_readLiar_60 : decode cX7_readLiar 60 = .ok (.bipush 123, 2) := by decide +kernel
theorem dX7_readLiar_62 : decode cX7_readLiar 62 = .ok (.invokevirtual 69, 3) := by decide +kernel
theorem dX7_readLiar_65 : decode cX7_readLiar 65 = .ok (.aload_n 0, 1) := by decide +kernel
theorem dX7_readLiar_66 : decode cX7_readLiar 66 = .ok (.getfield 38, 3) := by decide +kernel
theorem dX7_readLiar_69 : decode cX7_readLiar 69 = .ok (.ifCond .ne 52, 3) := by decide +kernel
theorem dX7_readLiar_72 : decode cX7_readLiar 72 = .ok (.aload_n 0, 1) := by decide +kernel
theorem dX7_readLiar_73 : decode cX7_readLiar 73 = .ok (.getfield 18, 3) := by decide +kernel
theorem dX7_readLiar_76 : decode cX7_readLiar 76 = .ok (.iload_n 2, 1) := by decide +kernel
theorem dX7_readLiar_77 : decode cX7_readLiar 77 = .ok (.invokevirtual 73, 3) := by decide +kernel
theorem dX7_readLiar_80 : decode cX7_readLiar 80 = .ok (.iconst 0, 1) := by decide +kernel
theorem dX7_readLiar_81 : decode cX7_readLiar 81 = .ok (.istore_n 3, 1) := by decide +kernel
theorem dX7_readLiar_82 : decode cX7_readLiar 82 = .ok (.iload_n 3, 1) := by decide +kernel
theorem dX7_readLiar_83 : decode cX7_readLiar 83 = .ok (.bipush 12, 2) := by decide +kernel
theorem dX7_readLiar_85 : decode cX7_readLiar 85 = .ok (.if_icmp .gt 36, 3) := by decide +kernel
theorem dX7_readLiar_88 : decode cX7_readLiar 88 = .ok (.aload_n 0, 1) := by decide +kernel
theorem dX7_readLiar_89 : decode cX7_readLiar 89 = .ok (.getfield 38, 3) := by decide +kernel
theorem dX7_readLiar_92 : decode cX7_readLiar 92 = .ok (.ifCond .ne 29, 3) := by decide +kernel
theorem dX7_readLiar_95 : decode cX7_readLiar 95 = .ok (.aload_n 0, 1) := by decide +kernel
theorem dX7_readLiar_96 : decode cX7_readLiar 96 = .ok (.bipush 125, 2) := by decide +kernel
theorem dX7_readLiar_98 : decode cX7_readLiar 98 = .ok (.invokevirtual 77, 3) := by decide +kernel
theorem dX7_readLiar_101 : decode cX7_readLiar 101 = .ok (.ifCond .ne 20, 3) := by decide +kernel
theorem dX7_readLiar_104 : decode cX7_readLiar 104 = .ok (.aload_n 0, 1) := by decide +kernel
theorem dX7_readLiar_105 : decode cX7_readLiar 105 = .ok (.iload_n 2, 1) := by decide +kernel
theorem dX7_readLiar_106 : decode cX7_readLiar 106 = .ok (.invokevirtual 81, 3) := by decide +kernel
theorem dX7_readLiar_109 : decode cX7_readLiar 109 = .ok (.aload_n 0, 1) := by decide +kernel
theorem dX7_readLiar_110 : decode cX7_readLiar 110 = .ok (.bipush 59, 2) := by decide +kernel
theorem dX7_readLiar_112 : decode cX7_readLiar 112 = .ok (.invokevirtual 69, 3) := by decide +kernel
theorem dX7_readLiar_115 : decode cX7_readLiar 115 = .ok (.iinc 3 1, 3) := by decide +kernel
theorem dX7_readLiar_118 : decode cX7_readLiar 118 = .ok (.goto (-36), 3) := by decide +kernel
theorem dX7_readLiar_121 : decode cX7_readLiar 121 = .ok (.return_, 1) := by decide +kernel
theorem dX7_startsLie_0 : decode cX7_startsLie 0 = .ok (.aload_n 0, 1) := by decide +kernel
theorem dX7_startsLie_1 : decode cX7_startsLie 1 = .ok (.ldc 84, 2) := by decide +kernel
theorem dX7_startsLie_3 : decode cX7_startsLie 3 = .ok (.invokevirtual 86, 3) := by decide +kernel
theorem dX7_startsLie_6 : decode cX7_startsLie 6 = .ok (.ifCond .ne 66, 3) := by decide +kernel
theorem dX7_startsLie_9 : decode cX7_startsLie 9 = .ok (.aload_n 0, 1) := by decide +kernel
theorem dX7_startsLie_10 : decode cX7_startsLie 10 = .ok (.ldc 89, 2) := by decide +kernel
theorem dX7_startsLie_12 : decode cX7_startsLie 12 = .ok (.invokevirtual 86, 3) := by decide +kernel
theorem dX7_startsLie_15 : decode cX7_startsLie 15 = .ok (.ifCond .ne 57, 3) := by decide +kernel
theorem dX7_startsLie_18 : decode cX7_startsLie 18 = .ok (.aload_n 0, 1) := by decide +kernel
theorem dX7_startsLie_19 : decode cX7_startsLie 19 = .ok (.ldc 91, 2) := by decide +kernel
theorem dX7_startsLie_21 : decode cX7_startsLie 21 = .ok (.invokevirtual 86, 3) := by decide +kernel
theorem dX7_startsLie_24 : decode cX7_startsLie 24 = .ok (.ifCond .ne 48, 3) := by decide +kernel
theorem dX7_startsLie_27 : decode cX7_startsLie 27 = .ok (.aload_n 0, 1) := by decide +kernel
theorem dX7_startsLie_28 : decode cX7_startsLie 28 = .ok (.ldc 93, 2) := by decide +kernel
theorem dX7_startsLie_30 : decode cX7_startsLie 30 = .ok (.invokevirtual 86, 3) := by decide +kernel
theorem dX7_startsLie_33 : decode cX7_startsLie 33 = .ok (.ifCond .ne 39, 3) := by decide +kernel
theorem dX7_startsLie_36 : decode cX7_startsLie 36 = .ok (.aload_n 0, 1) := by decide +kernel
theorem dX7_startsLie_37 : decode cX7_startsLie 37 = .ok (.ldc 95, 2) := by decide +kernel
theorem dX7_startsLie_39 : decode cX7_startsLie 39 = .ok (.invokevirtual 86, 3) := by decide +kernel
theorem dX7_startsLie_42 : decode cX7_startsLie 42 = .ok (.ifCond .ne 30, 3) := by decide +kernel
theorem dX7_startsLie_45 : decode cX7_startsLie 45 = .ok (.aload_n 0, 1) := by decide +kernel
theorem dX7_startsLie_46 : decode cX7_startsLie 46 = .ok (.ldc 97, 2) := by decide +kernel
theorem dX7_startsLie_48 : decode cX7_startsLie 48 = .ok (.invokevirtual 86, 3) := by decide +kernel
theorem dX7_startsLie_51 : decode cX7_startsLie 51 = .ok (.ifCond .ne 21, 3) := by decide +kernel
theorem dX7_startsLie_54 : decode cX7_startsLie 54 = .ok (.aload_n 0, 1) := by decide +kernel
theorem dX7_startsLie_55 : decode cX7_startsLie 55 = .ok (.ldc 99, 2) := by decide +kernel
theorem dX7_startsLie_57 : decode cX7_startsLie 57 = .ok (.invokevirtual 86, 3) := by decide +kernel
theorem dX7_startsLie_60 : decode cX7_startsLie 60 = .ok (.ifCond .ne 12, 3) := by decide +kernel
theorem dX7_startsLie_63 : decode cX7_startsLie 63 = .ok (.aload_n 0, 1) := by decide +kernel
theorem dX7_startsLie_64 : decode cX7_startsLie 64 = .ok (.ldc 101, 2) := by decide +kernel
theorem dX7_startsLie_66 : decode cX7_startsLie 66 = .ok (.invokevirtual 86, 3) := by decide +kernel
theorem dX7_startsLie_69 : decode cX7_startsLie 69 = .ok (.ifCond .eq 7, 3) := by decide +kernel
theorem dX7_startsLie_72 : decode cX7_startsLie 72 = .ok (.iconst 1, 1) := by decide +kernel
theorem dX7_startsLie_73 : decode cX7_startsLie 73 = .ok (.goto 4, 3) := by decide +kernel
theorem dX7_startsLie_76 : decode cX7_startsLie 76 = .ok (.iconst 0, 1) := by decide +kernel
theorem dX7_startsLie_77 : decode cX7_startsLie 77 = .ok (.ireturn, 1) := by decide +kernel
theorem dX7_readLie_0 : decode cX7_readLie 0 = .ok (.aload_n 0, 1) := by decide +kernel
theorem dX7_readLie_1 : decode cX7_readLie 1 = .ok (.getfield 18, 3) := by decide +kernel
theorem dX7_readLie_4 : decode cX7_readLie 4 = .ok (.iload_n 1, 1) := by decide +kernel
theorem dX7_readLie_5 : decode cX7_readLie 5 = .ok (.invokevirtual 103, 3) := by decide +kernel
theorem dX7_readLie_8 : decode cX7_readLie 8 = .ok (.ifCond .eq 23, 3) := by decide +kernel
theorem dX7_readLie_11 : decode cX7_readLie 11 = .ok (.aload_n 0, 1) := by decide +kernel
theorem dX7_readLie_12 : decode cX7_readLie 12 = .ok (.aload_n 0, 1) := by decide +kernel
theorem dX7_readLie_13 : decode cX7_readLie 13 = .ok (.invokevirtual 106, 3) := by decide +kernel
theorem dX7_readLie_16 : decode cX7_readLie 16 = .ok (.ifCond .eq 7, 3) := by decide +kernel
theorem dX7_readLie_19 : decode cX7_readLie 19 = .ok (.iconst 3, 1) := by decide +kernel
theorem dX7_readLie_20 : decode cX7_readLie 20 = .ok (.goto 4, 3) := by decide +kernel
theorem dX7_readLie_23 : decode cX7_readLie 23 = .ok (.iconst 1, 1) := by decide +kernel
theorem dX7_readLie_24 : decode cX7_readLie 24 = .ok (.aload_n 0, 1) := by decide +kernel
theorem dX7_readLie_25 : decode cX7_readLie 25 = .ok (.invokevirtual 44, 3) := by decide +kernel
theorem dX7_readLie_28 : decode cX7_readLie 28 = .ok (.invokevirtual 57, 3) := by decide +kernel
theorem dX7_readLie_31 : decode cX7_readLie 31 = .ok (.aload_n 0, 1) := by decide +kernel
theorem dX7_readLie_32 : decode cX7_readLie 32 = .ok (.ldc 84, 2) := by decide +kernel
theorem dX7_readLie_34 : decode cX7_readLie 34 = .ok (.invokevirtual 53, 3) := by decide +kernel
theorem dX7_readLie_37 : decode cX7_readLie 37 = .ok (.ifCond .eq 12, 3) := by decide +kernel
theorem dX7_readLie_40 : decode cX7_readLie 40 = .ok (.aload_n 0, 1) := by decide +kernel
theorem dX7_readLie_41 : decode cX7_readLie 41 = .ok (.iconst 1, 1) := by decide +kernel
theorem dX7_readLie_42 : decode cX7_readLie 42 = .ok (.iconst 3, 1) := by decide +kernel
theorem dX7_readLie_43 : decode cX7_readLie 43 = .ok (.invokevirtual 61, 3) := by decide +kernel
theorem dX7_readLie_46 : decode cX7_readLie 46 = .ok (.goto 4, 3) := by decide +kernel
theorem dX7_readLie_49 : decode cX7_readLie 49 = .ok (.iconst (-1), 1) := by decide +kernel
theorem dX7_readLie_50 : decode cX7_readLie 50 = .ok (.istore_n 2, 1) := by decide +kernel
theorem dX7_readLie_51 : decode cX7_readLie 51 = .ok (.aload_n 0, 1) := by decide +kernel
theorem dX7_readLie_52 : decode cX7_readLie 52 = .ok (.ldc 89, 2) := by decide +kernel
theorem dX7_readLie_54 : decode cX7_readLie 54 = .ok (.invokevirtual 53, 3) := by decide +kernel
theorem dX7_readLie_57 : decode cX7_readLie 57 = .ok (.ifCond .eq 17, 3) := by decide +kernel
theorem dX7_readLie_60 : decode cX7_readLie 60 = .ok (.aload_n 0, 1) := by decide +kernel
theorem dX7_readLie_61 : decode cX7_readLie 61 = .ok (.iconst 0, 1) := by decide +kernel
theorem dX7_readLie_62 : decode cX7_readLie 62 = .ok (.aload_n 0, 1) := by decide +kernel
theorem dX7_readLie_63 : decode cX7_readLie 63 = .ok (.getfield 35, 3) := by decide +kernel
theorem dX7_readLie_66 : decode cX7_readLie 66 = .ok (.iconst 1, 1) := by decide +kernel
theorem dX7_readLie_67 : decode cX7_readLie 67 = .ok (.isub, 1) := by decide +kernel
theorem dX7_readLie_68 : decode cX7_readLie 68 = .ok (.invokevirtual 61, 3) := by decide +kernel
theorem dX7_readLie_71 : decode cX7_readLie 71 = .ok (.goto 4, 3) := by decide +kernel
theorem dX7_readLie_74 : decode cX7_readLie 74 = .ok (.iconst (-1), 1) := by decide +kernel
theorem dX7_readLie_75 : decode cX7_readLie 75 = .ok (.istore_n 3, 1) := by decide +kernel
theorem dX7_readLie_76 : decode cX7_readLie 76 = .ok (.aload_n 0, 1) := by decide +kernel
theorem dX7_readLie_77 : decode cX7_readLie 77 = .ok (.ldc 91, 2) := by decide +kernel
theorem dX7_readLie_79 : decode cX7_readLie 79 = .ok (.invokevirtual 53, 3) := by decide +kernel
theorem dX7_readLie_82 : decode cX7_readLie 82 = .ok (.ifCond .eq 17, 3) := by decide +kernel
theorem dX7_readLie_85 : decode cX7_readLie 85 = .ok (.aload_n 0, 1) := by decide +kernel
theorem dX7_readLie_86 : decode cX7_readLie 86 = .ok (.iconst 0, 1) := by decide +kernel
theorem dX7_readLie_87 : decode cX7_readLie 87 = .ok (.aload_n 0, 1) := by decide +kernel
theorem dX7_readLie_88 : decode cX7_readLie 88 = .ok (.getfield 35, 3) := by decide +kernel
theorem dX7_readLie_91 : decode cX7_readLie 91 = .ok (.iconst 1, 1) := by decide +kernel
theorem dX7_readLie_92 : decode cX7_readLie 92 = .ok (.isub, 1) := by decide +kernel
theorem dX7_readLie_93 : decode cX7_readLie 93 = .ok (.invokevirtual 61, 3) := by decide +kernel
theorem dX7_readLie_96 : decode cX7_readLie 96 = .ok (.goto 4, 3) := by decide +kernel
theorem dX7_readLie_99 : decode cX7_readLie 99 = .ok (.iconst (-1), 1) := by decide +kernel
theorem dX7_readLie_100 : decode cX7_readLie 100 = .ok (.istore 4, 2) := by decide +kernel
theorem dX7_readLie_102 : decode cX7_readLie 102 = .ok (.aload_n 0, 1) := by decide +kernel
theorem dX7_readLie_103 : decode cX7_readLie 103 = .ok (.getfield 38, 3) := by decide +kernel
theorem dX7_readLie_106 : decode cX7_readLie 106 = .ok (.ifCond .eq 4, 3) := by decide +kernel
theorem dX7_readLie_109 : decode cX7_readLie 109 = .ok (.return_, 1) := by decide +kernel
theorem dX7_readLie_110 : decode cX7_readLie 110 = .ok (.aload_n 0, 1) := by decide +kernel
theorem dX7_readLie_111 : decode cX7_readLie 111 = .ok (.getfield 18, 3) := by decide +kernel
theorem dX7_readLie_114 : decode cX7_readLie 114 = .ok (.iload_n 1, 1) := by decide +kernel
theorem dX7_readLie_115 : decode cX7_readLie 115 = .ok (.iload_n 2, 1) := by decide +kernel
theorem dX7_readLie_116 : decode cX7_readLie 116 = .ok (.iload_n 3, 1) := by decide +kernel
theorem dX7_readLie_117 : decode cX7_readLie 117 = .ok (.iload 4, 2) := by decide +kernel
theorem dX7_readLie_119 : decode cX7_readLie 119 = .ok (.invokevirtual 110, 3) := by decide +kernel
theorem dX7_readLie_122 : decode cX7_readLie 122 = .ok (.aload_n 0, 1) := by decide +kernel
theorem dX7_readLie_123 : decode cX7_readLie 123 = .ok (.ldc 93, 2) := by decide +kernel
theorem dX7_readLie_125 : decode cX7_readLie 125 = .ok (.invokevirtual 53, 3) := by decide +kernel
theorem dX7_readLie_128 : decode cX7_readLie 128 = .ok (.ifCond .eq 20, 3) := by decide +kernel
theorem dX7_readLie_131 : decode cX7_readLie 131 = .ok (.aload_n 0, 1) := by decide +kernel
theorem dX7_readLie_132 : decode cX7_readLie 132 = .ok (.getfield 18, 3) := by decide +kernel
theorem dX7_readLie_135 : decode cX7_readLie 135 = .ok (.iload_n 1, 1) := by decide +kernel
theorem dX7_readLie_136 : decode cX7_readLie 136 = .ok (.iconst 0, 1) := by decide +kernel
theorem dX7_readLie_137 : decode cX7_readLie 137 = .ok (.aload_n 0, 1) := by decide +kernel
theorem dX7_readLie_138 : decode cX7_readLie 138 = .ok (.invokevirtual 114, 3) := by decide +kernel
theorem dX7_readLie_141 : decode cX7_readLie 141 = .ok (.iconst 0, 1) := by decide +kernel
theorem dX7_readLie_142 : decode cX7_readLie 142 = .ok (.invokevirtual 117, 3) := by decide +kernel
theorem dX7_readLie_145 : decode cX7_readLie 145 = .ok (.goto 100, 3) := by decide +kernel
theorem dX7_readLie_148 : decode cX7_readLie 148 = .ok (.aload_n 0, 1) := by decide +kernel
theorem dX7_readLie_149 : decode cX7_readLie 149 = .ok (.ldc 95, 2) := by decide +kernel
theorem dX7_readLie_151 : decode cX7_readLie 151 = .ok (.invokevirtual 53, 3) := by decide +kernel
theorem dX7_readLie_154 : decode cX7_readLie 154 = .ok (.ifCond .eq 27, 3) := by decide +kernel
theorem dX7_readLie_157 : decode cX7_readLie 157 = .ok (.aload_n 0, 1) := by decide +kernel
theorem dX7_readLie_158 : decode cX7_readLie 158 = .ok (.invokevirtual 114, 3) := by decide +kernel
theorem dX7_readLie_161 : decode cX7_readLie 161 = .ok (.istore 5, 2) := by decide +kernel
theorem dX7_readLie_163 : decode cX7_readLie 163 = .ok (.aload_n 0, 1) := by decide +kernel
theorem dX7_readLie_164 : decode cX7_readLie 164 = .ok (.getfield 18, 3) := by decide +kernel
theorem dX7_readLie_167 : decode cX7_readLie 167 = .ok (.iload_n 1, 1) := by decide +kernel
theorem dX7_readLie_168 : decode cX7_readLie 168 = .ok (.iconst 1, 1) := by decide +kernel
theorem dX7_readLie_169 : decode cX7_readLie 169 = .ok (.iload 5, 2) := by decide +kernel
theorem dX7_readLie_171 : decode cX7_readLie 171 = .ok (.aload_n 0, 1) := by decide +kernel
theorem dX7_readLie_172 : decode cX7_readLie 172 = .ok (.invokevirtual 114, 3) := by decide +kernel
theorem dX7_readLie_175 : decode cX7_readLie 175 = .ok (.invokevirtual 117, 3) := by decide +kernel
theorem dX7_readLie_178 : decode cX7_readLie 178 = .ok (.goto 67, 3) := by decide +kernel
theorem dX7_readLie_181 : decode cX7_readLie 181 = .ok (.aload_n 0, 1) := by decide +kernel
theorem dX7_readLie_182 : decode cX7_readLie 182 = .ok (.ldc 97, 2) := by decide +kernel
theorem dX7_readLie_184 : decode cX7_readLie 184 = .ok (.invokevirtual 53, 3) := by decide +kernel
theorem dX7_readLie_187 : decode cX7_readLie 187 = .ok (.ifCond .eq 17, 3) := by decide +kernel
theorem dX7_readLie_190 : decode cX7_readLie 190 = .ok (.aload_n 0, 1) := by decide +kernel
theorem dX7_readLie_191 : decode cX7_readLie 191 = .ok (.getfield 18, 3) := by decide +kernel
theorem dX7_readLie_194 : decode cX7_readLie 194 = .ok (.iload_n 1, 1) := by decide +kernel
theorem dX7_readLie_195 : decode cX7_readLie 195 = .ok (.iconst 2, 1) := by decide +kernel
theorem dX7_readLie_196 : decode cX7_readLie 196 = .ok (.iconst 0, 1) := by decide +kernel
theorem dX7_readLie_197 : decode cX7_readLie 197 = .ok (.iconst 0, 1) := by decide +kernel
theorem dX7_readLie_198 : decode cX7_readLie 198 = .ok (.invokevirtual 117, 3) := by decide +kernel
theorem dX7_readLie_201 : decode cX7_readLie 201 = .ok (.goto 44, 3) := by decide +kernel
theorem dX7_readLie_204 : decode cX7_readLie 204 = .ok (.aload_n 0, 1) := by decide +kernel
theorem dX7_readLie_205 : decode cX7_readLie 205 = .ok (.ldc 99, 2) := by decide +kernel
theorem dX7_readLie_207 : decode cX7_readLie 207 = .ok (.invokevirtual 53, 3) := by decide +kernel
theorem dX7_readLie_210 : decode cX7_readLie 210 = .ok (.ifCond .eq 17, 3) := by decide +kernel
theorem dX7_readLie_213 : decode cX7_readLie 213 = .ok (.aload_n 0, 1) := by decide +kernel
theorem dX7_readLie_214 : decode cX7_readLie 214 = .ok (.getfield 18, 3) := by decide +kernel
theorem dX7_readLie_217 : decode cX7_readLie 217 = .ok (.iload_n 1, 1) := by decide +kernel
theorem dX7_readLie_218 : decode cX7_readLie 218 = .ok (.iconst 3, 1) := by decide +kernel
theorem dX7_readLie_219 : decode cX7_readLie 219 = .ok (.iconst 0, 1) := by decide +kernel
theorem dX7_readLie_220 : decode cX7_readLie 220 = .ok (.iconst 0, 1) := by decide +kernel
theorem dX7_readLie_221 : decode cX7_readLie 221 = .ok (.invokevirtual 117, 3) := by decide +kernel
theorem dX7_readLie_224 : decode cX7_readLie 224 = .ok (.goto 21, 3) := by decide +kernel
theorem dX7_readLie_227 : decode cX7_readLie 227 = .ok (.aload_n 0, 1) := by decide +kernel
theorem dX7_readLie_228 : decode cX7_readLie 228 = .ok (.ldc 101, 2) := by decide +kernel
theorem dX7_readLie_230 : decode cX7_readLie 230 = .ok (.invokevirtual 53, 3) := by decide +kernel
theorem dX7_readLie_233 : decode cX7_readLie 233 = .ok (.ifCond .ne 12, 3) := by decide +kernel
theorem dX7_readLie_236 : decode cX7_readLie 236 = .ok (.aload_n 0, 1) := by decide +kernel
theorem dX7_readLie_237 : decode cX7_readLie 237 = .ok (.iconst 1, 1) := by decide +kernel
theorem dX7_readLie_238 : decode cX7_readLie 238 = .ok (.aload_n 0, 1) := by decide +kernel
theorem dX7_readLie_239 : decode cX7_readLie 239 = .ok (.getfield 29, 3) := by decide +kernel
theorem dX7_readLie_242 : decode cX7_readLie 242 = .ok (.invokevirtual 57, 3) := by decide +kernel
theorem dX7_readLie_245 : decode cX7_readLie 245 = .ok (.return_, 1) := by decide +kernel
theorem dX7_readValue_0 : decode cX7_readValue 0 = .ok (.aload_n 0, 1) := by decide +kernel
theorem dX7_readValue_1 : decode cX7_readValue 1 = .ok (.bipush 45, 2) := by decide +kernel
theorem dX7_readValue_3 : decode cX7_readValue 3 = .ok (.invokevirtual 77, 3) := by decide +kernel
theorem dX7_readValue_6 : decode cX7_readValue 6 = .ok (.istore_n 1, 1) := by decide +kernel
theorem dX7_readValue_7 : decode cX7_readValue 7 = .ok (.aload_n 0, 1) := by decide +kernel
theorem dX7_readValue_8 : decode cX7_readValue 8 = .ok (.iconst 0, 1) := by decide +kernel
theorem dX7_readValue_9 : decode cX7_readValue 9 = .ok (.ldc 120, 2) := by decide +kernel
theorem dX7_readValue_11 : decode cX7_readValue 11 = .ok (.invokevirtual 61, 3) := by decide +kernel
theorem dX7_readValue_14 : decode cX7_readValue 14 = .ok (.istore_n 2, 1) := by decide +kernel
theorem dX7_readValue_15 : decode cX7_readValue 15 = .ok (.aload_n 0, 1) := by decide +kernel
theorem dX7_readValue_16 : decode cX7_readValue 16 = .ok (.bipush 47, 2) := by decide +kernel
theorem dX7_readValue_18 : decode cX7_readValue 18 = .ok (.invokevirtual 77, 3) := by decide +kernel
theorem dX7_readValue_21 : decode cX7_readValue 21 = .ok (.ifCond .eq 14, 3) := by decide +kernel
theorem dX7_readValue_24 : decode cX7_readValue 24 = .ok (.aload_n 0, 1) := by decide +kernel
theorem dX7_readValue_25 : decode cX7_readValue 25 = .ok (.iconst 1, 1) := by decide +kernel
theorem dX7_readValue_26 : decode cX7_readValue 26 = .ok (.sipush 999, 3) := by decide +kernel
theorem dX7_readValue_29 : decode cX7_readValue 29 = .ok (.invokevirtual 61, 3) := by decide +kernel
theorem dX7_readValue_32 : decode cX7_readValue 32 = .ok (.goto 4, 3) := by decide +kernel
theorem dX7_readValue_35 : decode cX7_readValue 35 = .ok (.iconst 1, 1) := by decide +kernel
theorem dX7_readValue_36 : decode cX7_readValue 36 = .ok (.istore_n 3, 1) := by decide +kernel
theorem dX7_readValue_37 : decode cX7_readValue 37 = .ok (.aload_n 0, 1) := by decide +kernel
theorem dX7_readValue_38 : decode cX7_readValue 38 = .ok (.getfield 38, 3) := by decide +kernel
theorem dX7_readValue_41 : decode cX7_readValue 41 = .ok (.ifCond .ne 8, 3) := by decide +kernel
theorem dX7_readValue_44 : decode cX7_readValue 44 = .ok (.iload_n 3, 1) := by decide +kernel
theorem dX7_readValue_45 : decode cX7_readValue 45 = .ok (.iconst 1, 1) := by decide +kernel
theorem dX7_readValue_46 : decode cX7_readValue 46 = .ok (.if_icmp .ge 5, 3) := by decide +kernel
theorem dX7_readValue_49 : decode cX7_readValue 49 = .ok (.iconst 0, 1) := by decide +kernel
theorem dX7_readValue_50 : decode cX7_readValue 50 = .ok (.ireturn, 1) := by decide +kernel
theorem dX7_readValue_51 : decode cX7_readValue 51 = .ok (.iload_n 1, 1) := by decide +kernel
theorem dX7_readValue_52 : decode cX7_readValue 52 = .ok (.ifCond .eq 8, 3) := by decide +kernel
theorem dX7_readValue_55 : decode cX7_readValue 55 = .ok (.iload_n 2, 1) := by decide +kernel
theorem dX7_readValue_56 : decode cX7_readValue 56 = .ok (.ineg, 1) := by decide +kernel
theorem dX7_readValue_57 : decode cX7_readValue 57 = .ok (.goto 4, 3) := by decide +kernel
theorem dX7_readValue_60 : decode cX7_readValue 60 = .ok (.iload_n 2, 1) := by decide +kernel
theorem dX7_readValue_61 : decode cX7_readValue 61 = .ok (.i2f, 1) := by decide +kernel
theorem dX7_readValue_62 : decode cX7_readValue 62 = .ok (.iload_n 3, 1) := by decide +kernel
theorem dX7_readValue_63 : decode cX7_readValue 63 = .ok (.i2f, 1) := by decide +kernel
theorem dX7_readValue_64 : decode cX7_readValue 64 = .ok (.fdiv, 1) := by decide +kernel
theorem dX7_readValue_65 : decode cX7_readValue 65 = .ok (.invokestatic 121, 3) := by decide +kernel
theorem dX7_readValue_68 : decode cX7_readValue 68 = .ok (.ireturn, 1) := by decide +kernel
theorem dX7_readNumber_0 : decode cX7_readNumber 0 = .ok (.aload_n 0, 1) := by decide +kernel
theorem dX7_readNumber_1 : decode cX7_readNumber 1 = .ok (.invokevirtual 44, 3) := by decide +kernel
theorem dX7_readNumber_4 : decode cX7_readNumber 4 = .ok (.istore_n 3, 1) := by decide +kernel
theorem dX7_readNumber_5 : decode cX7_readNumber 5 = .ok (.iconst 0, 1) := by decide +kernel
theorem dX7_readNumber_6 : decode cX7_readNumber 6 = .ok (.istore 4, 2) := by decide +kernel
theorem dX7_readNumber_8 : decode cX7_readNumber 8 = .ok (.aload_n 0, 1) := by decide +kernel
theorem dX7_readNumber_9 : decode cX7_readNumber 9 = .ok (.getfield 29, 3) := by decide +kernel
theorem dX7_readNumber_12 : decode cX7_readNumber 12 = .ok (.aload_n 0, 1) := by decide +kernel
theorem dX7_readNumber_13 : decode cX7_readNumber 13 = .ok (.getfield 32, 3) := by decide +kernel
theorem dX7_readNumber_16 : decode cX7_readNumber 16 = .ok (.if_icmp .ge 56, 3) := by decide +kernel
theorem dX7_readNumber_19 : decode cX7_readNumber 19 = .ok (.aload_n 0, 1) := by decide +kernel
theorem dX7_readNumber_20 : decode cX7_readNumber 20 = .ok (.getfield 22, 3) := by decide +kernel
theorem dX7_readNumber_23 : decode cX7_readNumber 23 = .ok (.aload_n 0, 1) := by decide +kernel
theorem dX7_readNumber_24 : decode cX7_readNumber 24 = .ok (.getfield 29, 3) := by decide +kernel
theorem dX7_readNumber_27 : decode cX7_readNumber 27 = .ok (.iaload, 1) := by decide +kernel
theorem dX7_readNumber_28 : decode cX7_readNumber 28 = .ok (.invokestatic 127, 3) := by decide +kernel
theorem dX7_readNumber_31 : decode cX7_readNumber 31 = .ok (.ifCond .eq 41, 3) := by decide +kernel
theorem dX7_readNumber_34 : decode cX7_readNumber 34 = .ok (.iload 4, 2) := by decide +kernel
theorem dX7_readNumber_36 : decode cX7_readNumber 36 = .ok (.bipush 10, 2) := by decide +kernel
theorem dX7_readNumber_38 : decode cX7_readNumber 38 = .ok (.imul, 1) := by decide +kernel
theorem dX7_readNumber_39 : decode cX7_readNumber 39 = .ok (.aload_n 0, 1) := by decide +kernel
theorem dX7_readNumber_40 : decode cX7_readNumber 40 = .ok (.getfield 22, 3) := by decide +kernel
theorem dX7_readNumber_43 : decode cX7_readNumber 43 = .ok (.aload_n 0, 1) := by decide +kernel
theorem dX7_readNumber_44 : decode cX7_readNumber 44 = .ok (.getfield 29, 3) := by decide +kernel
theorem dX7_readNumber_47 : decode cX7_readNumber 47 = .ok (.iaload, 1) := by decide +kernel
theorem dX7_readNumber_48 : decode cX7_readNumber 48 = .ok (.iadd, 1) := by decide +kernel
theorem dX7_readNumber_49 : decode cX7_readNumber 49 = .ok (.bipush 48, 2) := by decide +kernel
theorem dX7_readNumber_51 : decode cX7_readNumber 51 = .ok (.isub, 1) := by decide +kernel
theorem dX7_readNumber_52 : decode cX7_readNumber 52 = .ok (.ldc 130, 2) := by decide +kernel
theorem dX7_readNumber_54 : decode cX7_readNumber 54 = .ok (.invokestatic 131, 3) := by decide +kernel
theorem dX7_readNumber_57 : decode cX7_readNumber 57 = .ok (.istore 4, 2) := by decide +kernel
theorem dX7_readNumber_59 : decode cX7_readNumber 59 = .ok (.aload_n 0, 1) := by decide +kernel
theorem dX7_readNumber_60 : decode cX7_readNumber 60 = .ok (.dup, 1) := by decide +kernel
theorem dX7_readNumber_61 : decode cX7_readNumber 61 = .ok (.getfield 29, 3) := by decide +kernel
theorem dX7_readNumber_64 : decode cX7_readNumber 64 = .ok (.iconst 1, 1) := by decide +kernel
theorem dX7_readNumber_65 : decode cX7_readNumber 65 = .ok (.iadd, 1) := by decide +kernel
theorem dX7_readNumber_66 : decode cX7_readNumber 66 = .ok (.putfield 29, 3) := by decide +kernel
theorem dX7_readNumber_69 : decode cX7_readNumber 69 = .ok (.goto (-61), 3) := by decide +kernel
theorem dX7_readNumber_72 : decode cX7_readNumber 72 = .ok (.aload_n 0, 1) := by decide +kernel
theorem dX7_readNumber_73 : decode cX7_readNumber 73 = .ok (.getfield 29, 3) := by decide +kernel
theorem dX7_readNumber_76 : decode cX7_readNumber 76 = .ok (.iload_n 3, 1) := by decide +kernel
theorem dX7_readNumber_77 : decode cX7_readNumber 77 = .ok (.if_icmp .ne 12, 3) := by decide +kernel
theorem dX7_readNumber_80 : decode cX7_readNumber 80 = .ok (.aload_n 0, 1) := by decide +kernel
theorem dX7_readNumber_81 : decode cX7_readNumber 81 = .ok (.iconst 1, 1) := by decide +kernel
theorem dX7_readNumber_82 : decode cX7_readNumber 82 = .ok (.iload_n 3, 1) := by decide +kernel
theorem dX7_readNumber_83 : decode cX7_readNumber 83 = .ok (.invokevirtual 57, 3) := by decide +kernel
theorem dX7_readNumber_86 : decode cX7_readNumber 86 = .ok (.goto 21, 3) := by decide +kernel
theorem dX7_readNumber_89 : decode cX7_readNumber 89 = .ok (.iload 4, 2) := by decide +kernel
theorem dX7_readNumber_91 : decode cX7_readNumber 91 = .ok (.iload_n 1, 1) := by decide +kernel
theorem dX7_readNumber_92 : decode cX7_readNumber 92 = .ok (.if_icmp .lt 9, 3) := by decide +kernel
theorem dX7_readNumber_95 : decode cX7_readNumber 95 = .ok (.iload 4, 2) := by decide +kernel
theorem dX7_readNumber_97 : decode cX7_readNumber 97 = .ok (.iload_n 2, 1) := by decide +kernel
theorem dX7_readNumber_98 : decode cX7_readNumber 98 = .ok (.if_icmp .le 9, 3) := by decide +kernel
theorem dX7_readNumber_101 : decode cX7_readNumber 101 = .ok (.aload_n 0, 1) := by decide +kernel
theorem dX7_readNumber_102 : decode cX7_readNumber 102 = .ok (.iconst 2, 1) := by decide +kernel
theorem dX7_readNumber_103 : decode cX7_readNumber 103 = .ok (.iload_n 3, 1) := by decide +kernel
theorem dX7_readNumber_104 : decode cX7_readNumber 104 = .ok (.invokevirtual 57, 3) := by decide +kernel
theorem dX7_readNumber_107 : decode cX7_readNumber 107 = .ok (.aload_n 0, 1) := by decide +kernel
theorem dX7_readNumber_108 : decode cX7_readNumber 108 = .ok (.getfield 38, 3) := by decide +kernel
theorem dX7_readNumber_111 : decode cX7_readNumber 111 = .ok (.ifCond .ne 8, 3) := by decide +kernel
theorem dX7_readNumber_114 : decode cX7_readNumber 114 = .ok (.iload 4, 2) := by decide +kernel
theorem dX7_readNumber_116 : decode cX7_readNumber 116 = .ok (.goto 4, 3) := by decide +kernel
theorem dX7_readNumber_119 : decode cX7_readNumber 119 = .ok (.iconst (-1), 1) := by decide +kernel
theorem dX7_readNumber_120 : decode cX7_readNumber 120 = .ok (.ireturn, 1) := by decide +kernel
theorem dX7_needSign_0 : decode cX7_needSign 0 = .ok (.aload_n 0, 1) := by decide +kernel
theorem dX7_needSign_1 : decode cX7_needSign 1 = .ok (.iload_n 1, 1) := by decide +kernel
theorem dX7_needSign_2 : decode cX7_needSign 2 = .ok (.invokevirtual 77, 3) := by decide +kernel
theorem dX7_needSign_5 : decode cX7_needSign 5 = .ok (.ifCond .ne 12, 3) := by decide +kernel
theorem dX7_needSign_8 : decode cX7_needSign 8 = .ok (.aload_n 0, 1) := by decide +kernel
theorem dX7_needSign_9 : decode cX7_needSign 9 = .ok (.iconst 1, 1) := by decide +kernel
theorem dX7_needSign_10 : decode cX7_needSign 10 = .ok (.aload_n 0, 1) := by decide +kernel
theorem dX7_needSign_11 : decode cX7_needSign 11 = .ok (.getfield 29, 3) := by decide +kernel
theorem dX7_needSign_14 : decode cX7_needSign 14 = .ok (.invokevirtual 57, 3) := by decide +kernel
theorem dX7_needSign_17 : decode cX7_needSign 17 = .ok (.return_, 1) := by decide +kernel
theorem dX7_takesWord_0 : decode cX7_takesWord 0 = .ok (.aload_n 0, 1) := by decide +kernel
theorem dX7_takesWord_1 : decode cX7_takesWord 1 = .ok (.aload_n 1, 1) := by decide +kernel
theorem dX7_takesWord_2 : decode cX7_takesWord 2 = .ok (.invokevirtual 86, 3) := by decide +kernel
theorem dX7_takesWord_5 : decode cX7_takesWord 5 = .ok (.ifCond .ne 5, 3) := by decide +kernel
theorem dX7_takesWord_8 : decode cX7_takesWord 8 = .ok (.iconst 0, 1) := by decide +kernel
theorem dX7_takesWord_9 : decode cX7_takesWord 9 = .ok (.ireturn, 1) := by decide +kernel
theorem dX7_takesWord_10 : decode cX7_takesWord 10 = .ok (.aload_n 0, 1) := by decide +kernel
theorem dX7_takesWord_11 : decode cX7_takesWord 11 = .ok (.dup, 1) := by decide +kernel
theorem dX7_takesWord_12 : decode cX7_takesWord 12 = .ok (.getfield 29, 3) := by decide +kernel
theorem dX7_takesWord_15 : decode cX7_takesWord 15 = .ok (.aload_n 1, 1) := by decide +kernel
theorem dX7_takesWord_16 : decode cX7_takesWord 16 = .ok (.invokevirtual 136, 3) := by decide +kernel
theorem dX7_takesWord_19 : decode cX7_takesWord 19 = .ok (.iadd, 1) := by decide +kernel
theorem dX7_takesWord_20 : decode cX7_takesWord 20 = .ok (.putfield 29, 3) := by decide +kernel
theorem dX7_takesWord_23 : decode cX7_takesWord 23 = .ok (.iconst 1, 1) := by decide +kernel
theorem dX7_takesWord_24 : decode cX7_takesWord 24 = .ok (.ireturn, 1) := by decide +kernel
theorem dX7_takesSign_0 : decode cX7_takesSign 0 = .ok (.aload_n 0, 1) := by decide +kernel
theorem dX7_takesSign_1 : decode cX7_takesSign 1 = .ok (.invokevirtual 44, 3) := by decide +kernel
theorem dX7_takesSign_4 : decode cX7_takesSign 4 = .ok (.aload_n 0, 1) := by decide +kernel
theorem dX7_takesSign_5 : decode cX7_takesSign 5 = .ok (.getfield 32, 3) := by decide +kernel
theorem dX7_takesSign_8 : decode cX7_takesSign 8 = .ok (.if_icmp .ge 16, 3) := by decide +kernel
theorem dX7_takesSign_11 : decode cX7_takesSign 11 = .ok (.aload_n 0, 1) := by decide +kernel
theorem dX7_takesSign_12 : decode cX7_takesSign 12 = .ok (.getfield 22, 3) := by decide +kernel
theorem dX7_takesSign_15 : decode cX7_takesSign 15 = .ok (.aload_n 0, 1) := by decide +kernel
theorem dX7_takesSign_16 : decode cX7_takesSign 16 = .ok (.getfield 29, 3) := by decide +kernel
theorem dX7_takesSign_19 : decode cX7_takesSign 19 = .ok (.iaload, 1) := by decide +kernel
theorem dX7_takesSign_20 : decode cX7_takesSign 20 = .ok (.iload_n 1, 1) := by decide +kernel
theorem dX7_takesSign_21 : decode cX7_takesSign 21 = .ok (.if_icmp .eq 5, 3) := by decide +kernel
theorem dX7_takesSign_24 : decode cX7_takesSign 24 = .ok (.iconst 0, 1) := by decide +kernel
theorem dX7_takesSign_25 : decode cX7_takesSign 25 = .ok (.ireturn, 1) := by decide +kernel
theorem dX7_takesSign_26 : decode cX7_takesSign 26 = .ok (.aload_n 0, 1) := by decide +kernel
theorem dX7_takesSign_27 : decode cX7_takesSign 27 = .ok (.dup, 1) := by decide +kernel
theorem dX7_takesSign_28 : decode cX7_takesSign 28 = .ok (.getfield 29, 3) := by decide +kernel
theorem dX7_takesSign_31 : decode cX7_takesSign 31 = .ok (.iconst 1, 1) := by decide +kernel
theorem dX7_takesSign_32 : decode cX7_takesSign 32 = .ok (.iadd, 1) := by decide +kernel
theorem dX7_takesSign_33 : decode cX7_takesSign 33 = .ok (.putfield 29, 3) := by decide +kernel
theorem dX7_takesSign_36 : decode cX7_takesSign 36 = .ok (.iconst 1, 1) := by decide +kernel
theorem dX7_takesSign_37 : decode cX7_takesSign 37 = .ok (.ireturn, 1) := by decide +kernel
theorem dX7_isWord_0 : decode cX7_isWord 0 = .ok (.aload_n 0, 1) := by decide +kernel
theorem dX7_isWord_1 : decode cX7_isWord 1 = .ok (.invokevirtual 44, 3) := by decide +kernel
theorem dX7_isWord_4 : decode cX7_isWord 4 = .ok (.istore_n 2, 1) := by decide +kernel
theorem dX7_isWord_5 : decode cX7_isWord 5 = .ok (.iload_n 2, 1) := by decide +kernel
theorem dX7_isWord_6 : decode cX7_isWord 6 = .ok (.istore_n 3, 1) := by decide +kernel
theorem dX7_isWord_7 : decode cX7_isWord 7 = .ok (.iload_n 3, 1) := by decide +kernel
theorem dX7_isWord_8 : decode cX7_isWord 8 = .ok (.aload_n 0, 1) := by decide +kernel
theorem dX7_isWord_9 : decode cX7_isWord 9 = .ok (.getfield 32, 3) := by decide +kernel
theorem dX7_isWord_12 : decode cX7_isWord 12 = .ok (.if_icmp .ge 21, 3) := by decide +kernel
theorem dX7_isWord_15 : decode cX7_isWord 15 = .ok (.aload_n 0, 1) := by decide +kernel
theorem dX7_isWord_16 : decode cX7_isWord 16 = .ok (.getfield 22, 3) := by decide +kernel
theorem dX7_isWord_19 : decode cX7_isWord 19 = .ok (.iload_n 3, 1) := by decide +kernel
theorem dX7_isWord_20 : decode cX7_isWord 20 = .ok (.iaload, 1) := by decide +kernel
theorem dX7_isWord_21 : decode cX7_isWord 21 = .ok (.invokestatic 141, 3) := by decide +kernel
theorem dX7_isWord_24 : decode cX7_isWord 24 = .ok (.ifCond .eq 9, 3) := by decide +kernel
theorem dX7_isWord_27 : decode cX7_isWord 27 = .ok (.iinc 3 1, 3) := by decide +kernel
theorem dX7_isWord_30 : decode cX7_isWord 30 = .ok (.goto (-23), 3) := by decide +kernel
theorem dX7_isWord_33 : decode cX7_isWord 33 = .ok (.iload_n 3, 1) := by decide +kernel
theorem dX7_isWord_34 : decode cX7_isWord 34 = .ok (.iload_n 2, 1) := by decide +kernel
theorem dX7_isWord_35 : decode cX7_isWord 35 = .ok (.isub, 1) := by decide +kernel
theorem dX7_isWord_36 : decode cX7_isWord 36 = .ok (.aload_n 1, 1) := by decide +kernel
theorem dX7_isWord_37 : decode cX7_isWord 37 = .ok (.invokevirtual 136, 3) := by decide +kernel
theorem dX7_isWord_40 : decode cX7_isWord 40 = .ok (.if_icmp .eq 5, 3) := by decide +kernel
theorem dX7_isWord_43 : decode cX7_isWord 43 = .ok (.iconst 0, 1) := by decide +kernel
theorem dX7_isWord_44 : decode cX7_isWord 44 = .ok (.ireturn, 1) := by decide +kernel
theorem dX7_isWord_45 : decode cX7_isWord 45 = .ok (.iconst 0, 1) := by decide +kernel
theorem dX7_isWord_46 : decode cX7_isWord 46 = .ok (.istore 4, 2) := by decide +kernel
theorem dX7_isWord_48 : decode cX7_isWord 48 = .ok (.iload 4, 2) := by decide +kernel
theorem dX7_isWord_50 : decode cX7_isWord 50 = .ok (.aload_n 1, 1) := by decide +kernel
theorem dX7_isWord_51 : decode cX7_isWord 51 = .ok (.invokevirtual 136, 3) := by decide +kernel
theorem dX7_isWord_54 : decode cX7_isWord 54 = .ok (.if_icmp .ge 29, 3) := by decide +kernel
theorem dX7_isWord_57 : decode cX7_isWord 57 = .ok (.aload_n 0, 1) := by decide +kernel
theorem dX7_isWord_58 : decode cX7_isWord 58 = .ok (.getfield 22, 3) := by decide +kernel
theorem dX7_isWord_61 : decode cX7_isWord 61 = .ok (.iload_n 2, 1) := by decide +kernel
theorem dX7_isWord_62 : decode cX7_isWord 62 = .ok (.iload 4, 2) := by decide +kernel
theorem dX7_isWord_64 : decode cX7_isWord 64 = .ok (.iadd, 1) := by decide +kernel
theorem dX7_isWord_65 : decode cX7_isWord 65 = .ok (.iaload, 1) := by decide +kernel
theorem dX7_isWord_66 : decode cX7_isWord 66 = .ok (.aload_n 1, 1) := by decide +kernel
theorem dX7_isWord_67 : decode cX7_isWord 67 = .ok (.iload 4, 2) := by decide +kernel
theorem dX7_isWord_69 : decode cX7_isWord 69 = .ok (.invokevirtual 144, 3) := by decide +kernel
theorem dX7_isWord_72 : decode cX7_isWord 72 = .ok (.if_icmp .eq 5, 3) := by decide +kernel
theorem dX7_isWord_75 : decode cX7_isWord 75 = .ok (.iconst 0, 1) := by decide +kernel
theorem dX7_isWord_76 : decode cX7_isWord 76 = .ok (.ireturn, 1) := by decide +kernel
theorem dX7_isWord_77 : decode cX7_isWord 77 = .ok (.iinc 4 1, 3) := by decide +kernel
theorem dX7_isWord_80 : decode cX7_isWord 80 = .ok (.goto (-32), 3) := by decide +kernel
theorem dX7_isWord_83 : decode cX7_isWord 83 = .ok (.iconst 1, 1) := by decide +kernel
theorem dX7_isWord_84 : decode cX7_isWord 84 = .ok (.ireturn, 1) := by decide +kernel
theorem dX7_startOfToken_0 : decode cX7_startOfToken 0 = .ok (.aload_n 0, 1) := by decide +kernel
theorem dX7_startOfToken_1 : decode cX7_startOfToken 1 = .ok (.getfield 29, 3) := by decide +kernel
theorem dX7_startOfToken_4 : decode cX7_startOfToken 4 = .ok (.aload_n 0, 1) := by decide +kernel
theorem dX7_startOfToken_5 : decode cX7_startOfToken 5 = .ok (.getfield 32, 3) := by decide +kernel
theorem dX7_startOfToken_8 : decode cX7_startOfToken 8 = .ok (.if_icmp .ge 30, 3) := by decide +kernel
theorem dX7_startOfToken_11 : decode cX7_startOfToken 11 = .ok (.aload_n 0, 1) := by decide +kernel
theorem dX7_startOfToken_12 : decode cX7_startOfToken 12 = .ok (.getfield 22, 3) := by decide +kernel
theorem dX7_startOfToken_15 : decode cX7_startOfToken 15 = .ok (.aload_n 0, 1) := by decide +kernel
theorem dX7_startOfToken_16 : decode cX7_startOfToken 16 = .ok (.getfield 29, 3) := by decide +kernel
theorem dX7_startOfToken_19 : decode cX7_startOfToken 19 = .ok (.iaload, 1) := by decide +kernel
theorem dX7_startOfToken_20 : decode cX7_startOfToken 20 = .ok (.bipush 32, 2) := by decide +kernel
theorem dX7_startOfToken_22 : decode cX7_startOfToken 22 = .ok (.if_icmp .ne 16, 3) := by decide +kernel
theorem dX7_startOfToken_25 : decode cX7_startOfToken 25 = .ok (.aload_n 0, 1) := by decide +kernel
theorem dX7_startOfToken_26 : decode cX7_startOfToken 26 = .ok (.dup, 1) := by decide +kernel
theorem dX7_startOfToken_27 : decode cX7_startOfToken 27 = .ok (.getfield 29, 3) := by decide +kernel
theorem dX7_startOfToken_30 : decode cX7_startOfToken 30 = .ok (.iconst 1, 1) := by decide +kernel
theorem dX7_startOfToken_31 : decode cX7_startOfToken 31 = .ok (.iadd, 1) := by decide +kernel
theorem dX7_startOfToken_32 : decode cX7_startOfToken 32 = .ok (.putfield 29, 3) := by decide +kernel
theorem dX7_startOfToken_35 : decode cX7_startOfToken 35 = .ok (.goto (-35), 3) := by decide +kernel
theorem dX7_startOfToken_38 : decode cX7_startOfToken 38 = .ok (.aload_n 0, 1) := by decide +kernel
theorem dX7_startOfToken_39 : decode cX7_startOfToken 39 = .ok (.getfield 29, 3) := by decide +kernel
theorem dX7_startOfToken_42 : decode cX7_startOfToken 42 = .ok (.ireturn, 1) := by decide +kernel
theorem dX7_isDigit_0 : decode cX7_isDigit 0 = .ok (.iload_n 0, 1) := by decide +kernel
theorem dX7_isDigit_1 : decode cX7_isDigit 1 = .ok (.bipush 48, 2) := by decide +kernel
theorem dX7_isDigit_3 : decode cX7_isDigit 3 = .ok (.if_icmp .lt 13, 3) := by decide +kernel
theorem dX7_isDigit_6 : decode cX7_isDigit 6 = .ok (.iload_n 0, 1) := by decide +kernel
theorem dX7_isDigit_7 : decode cX7_isDigit 7 = .ok (.bipush 57, 2) := by decide +kernel
theorem dX7_isDigit_9 : decode cX7_isDigit 9 = .ok (.if_icmp .gt 7, 3) := by decide +kernel
theorem dX7_isDigit_12 : decode cX7_isDigit 12 = .ok (.iconst 1, 1) := by decide +kernel
theorem dX7_isDigit_13 : decode cX7_isDigit 13 = .ok (.goto 4, 3) := by decide +kernel
theorem dX7_isDigit_16 : decode cX7_isDigit 16 = .ok (.iconst 0, 1) := by decide +kernel
theorem dX7_isDigit_17 : decode cX7_isDigit 17 = .ok (.ireturn, 1) := by decide +kernel
theorem dX7_isLetter_0 : decode cX7_isLetter 0 = .ok (.iload_n 0, 1) := by decide +kernel
theorem dX7_isLetter_1 : decode cX7_isLetter 1 = .ok (.bipush 97, 2) := by decide +kernel
theorem dX7_isLetter_3 : decode cX7_isLetter 3 = .ok (.if_icmp .lt 13, 3) := by decide +kernel
theorem dX7_isLetter_6 : decode cX7_isLetter 6 = .ok (.iload_n 0, 1) := by decide +kernel
theorem dX7_isLetter_7 : decode cX7_isLetter 7 = .ok (.bipush 122, 2) := by decide +kernel
theorem dX7_isLetter_9 : decode cX7_isLetter 9 = .ok (.if_icmp .gt 7, 3) := by decide +kernel
theorem dX7_isLetter_12 : decode cX7_isLetter 12 = .ok (.iconst 1, 1) := by decide +kernel
theorem dX7_isLetter_13 : decode cX7_isLetter 13 = .ok (.goto 4, 3) := by decide +kernel
theorem dX7_isLetter_16 : decode cX7_isLetter 16 = .ok (.iconst 0, 1) := by decide +kernel
theorem dX7_isLetter_17 : decode cX7_isLetter 17 = .ok (.ireturn, 1) := by decide +kernel
theorem dX7_fail_0 : decode cX7_fail 0 = .ok (.aload_n 0, 1) := by decide +kernel
theorem dX7_fail_1 : decode cX7_fail 1 = .ok (.getfield 38, 3) := by decide +kernel
theorem dX7_fail_4 : decode cX7_fail 4 = .ok (.ifCond .ne 13, 3) := by decide +kernel
theorem dX7_fail_7 : decode cX7_fail 7 = .ok (.aload_n 0, 1) := by decide +kernel
theorem dX7_fail_8 : decode cX7_fail 8 = .ok (.iload_n 1, 1) := by decide +kernel
theorem dX7_fail_9 : decode cX7_fail 9 = .ok (.putfield 38, 3) := by decide +kernel
theorem dX7_fail_12 : decode cX7_fail 12 = .ok (.aload_n 0, 1) := by decide +kernel
theorem dX7_fail_13 : decode cX7_fail 13 = .ok (.iload_n 2, 1) := by decide +kernel
theorem dX7_fail_14 : decode cX7_fail 14 = .ok (.putfield 9, 3) := by decide +kernel
theorem dX7_fail_17 : decode cX7_fail 17 = .ok (.return_, 1) := by decide +kernel
theorem dX8_init_0 : decode cX8_init 0 = .ok (.aload_n 0, 1) := by decide +kernel
theorem dX8_init_1 : decode cX8_init 1 = .ok (.invokespecial 3, 3) := by decide +kernel
theorem dX8_init_4 : decode cX8_init 4 = .ok (.aload_n 0, 1) := by decide +kernel
theorem dX8_init_5 : decode cX8_init 5 = .ok (.bipush 7, 2) := by decide +kernel
theorem dX8_init_7 : decode cX8_init 7 = .ok (.newarray .int, 2) := by decide +kernel
theorem dX8_init_9 : decode cX8_init 9 = .ok (.putfield 9, 3) := by decide +kernel
theorem dX8_init_12 : decode cX8_init 12 = .ok (.aload_n 0, 1) := by decide +kernel
theorem dX8_init_13 : decode cX8_init 13 = .ok (.bipush 7, 2) := by decide +kernel
theorem dX8_init_15 : decode cX8_init 15 = .ok (.newarray .int, 2) := by decide +kernel
theorem dX8_init_17 : decode cX8_init 17 = .ok (.putfield 15, 3) := by decide +kernel
theorem dX8_init_20 : decode cX8_init 20 = .ok (.aload_n 0, 1) := by decide +kernel
theorem dX8_init_21 : decode cX8_init 21 = .ok (.bipush 7, 2) := by decide +kernel
theorem dX8_init_23 : decode cX8_init 23 = .ok (.newarray .int, 2) := by decide +kernel
theorem dX8_init_25 : decode cX8_init 25 = .ok (.putfield 18, 3) := by decide +kernel
theorem dX8_init_28 : decode cX8_init 28 = .ok (.aload_n 0, 1) := by decide +kernel
theorem dX8_init_29 : decode cX8_init 29 = .ok (.bipush 49, 2) := by decide +kernel
theorem dX8_init_31 : decode cX8_init 31 = .ok (.newarray .int, 2) := by decide +kernel
theorem dX8_init_33 : decode cX8_init 33 = .ok (.putfield 21, 3) := by decide +kernel
theorem dX8_init_36 : decode cX8_init 36 = .ok (.aload_n 0, 1) := by decide +kernel
theorem dX8_init_37 : decode cX8_init 37 = .ok (.bipush 49, 2) := by decide +kernel
theorem dX8_init_39 : decode cX8_init 39 = .ok (.newarray .int, 2) := by decide +kernel
theorem dX8_init_41 : decode cX8_init 41 = .ok (.putfield 24, 3) := by decide +kernel
theorem dX8_init_44 : decode cX8_init 44 = .ok (.aload_n 0, 1) := by decide +kernel
theorem dX8_init_45 : decode cX8_init 45 = .ok (.bipush 49, 2) := by decide +kernel
theorem dX8_init_47 : decode cX8_init 47 = .ok (.newarray .int, 2) := by decide +kernel
theorem dX8_init_49 : decode cX8_init 49 = .ok (.putfield 27, 3) := by decide +kernel
theorem dX8_init_52 : decode cX8_init 52 = .ok (.aload_n 0, 1) := by decide +kernel
theorem dX8_init_53 : decode cX8_init 53 = .ok (.bipush 49, 2) := by decide +kernel
theorem dX8_init_55 : decode cX8_init 55 = .ok (.newarray .int, 2) := by decide +kernel
theorem dX8_init_57 : decode cX8_init 57 = .ok (.putfield 30, 3) := by decide +kernel
theorem dX8_init_60 : decode cX8_init 60 = .ok (.return_, 1) := by decide +kernel
theorem dX8_play_0 : decode cX8_play 0 = .ok (.aload_n 0, 1) := by decide +kernel
theorem dX8_play_1 : decode cX8_play 1 = .ok (.aload_n 1, 1) := by decide +kernel
theorem dX8_play_2 : decode cX8_play 2 = .ok (.invokevirtual 33, 3) := by decide +kernel
theorem dX8_play_5 : decode cX8_play 5 = .ok (.iconst 0, 1) := by decide +kernel
theorem dX8_play_6 : decode cX8_play 6 = .ok (.istore_n 3, 1) := by decide +kernel
theorem dX8_play_7 : decode cX8_play 7 = .ok (.iload_n 3, 1) := by decide +kernel
theorem dX8_play_8 : decode cX8_play 8 = .ok (.aload_n 0, 1) := by decide +kernel
theorem dX8_play_9 : decode cX8_play 9 = .ok (.getfield 37, 3) := by decide +kernel
theorem dX8_play_12 : decode cX8_play 12 = .ok (.if_icmp .ge 60, 3) := by decide +kernel
theorem dX8_play_15 : decode cX8_play 15 = .ok (.iload_n 3, 1) := by decide +kernel
theorem dX8_play_16 : decode cX8_play 16 = .ok (.iload_n 2, 1) := by decide +kernel
theorem dX8_play_17 : decode cX8_play 17 = .ok (.if_icmp .eq 49, 3) := by decide +kernel
theorem dX8_play_20 : decode cX8_play 20 = .ok (.aload_n 1, 1) := by decide +kernel
theorem dX8_play_21 : decode cX8_play 21 = .ok (.getfield 41, 3) := by decide +kernel
theorem dX8_play_24 : decode cX8_play 24 = .ok (.iload_n 2, 1) := by decide +kernel
theorem dX8_play_25 : decode cX8_play 25 = .ok (.iconst 1, 1) := by decide +kernel
theorem dX8_play_26 : decode cX8_play 26 = .ok (.iload_n 3, 1) := by decide +kernel
theorem dX8_play_27 : decode cX8_play 27 = .ok (.iload_n 2, 1) := by decide +kernel
theorem dX8_play_28 : decode cX8_play 28 = .ok (.aload_n 1, 1) := by decide +kernel
theorem dX8_play_29 : decode cX8_play 29 = .ok (.getfield 47, 3) := by decide +kernel
theorem dX8_play_32 : decode cX8_play 32 = .ok (.iload_n 2, 1) := by decide +kernel
theorem dX8_play_33 : decode cX8_play 33 = .ok (.iaload, 1) := by decide +kernel
theorem dX8_play_34 : decode cX8_play 34 = .ok (.invokevirtual 50, 3) := by decide +kernel
theorem dX8_play_37 : decode cX8_play 37 = .ok (.lstore 4, 2) := by decide +kernel
theorem dX8_play_39 : decode cX8_play 39 = .ok (.aload_n 0, 1) := by decide +kernel
theorem dX8_play_40 : decode cX8_play 40 = .ok (.iload_n 2, 1) := by decide +kernel
theorem dX8_play_41 : decode cX8_play 41 = .ok (.lload 4, 2) := by decide +kernel
theorem dX8_play_43 : decode cX8_play 43 = .ok (.invokevirtual 55, 3) := by decide +kernel
theorem dX8_play_46 : decode cX8_play 46 = .ok (.lload 4, 2) := by decide +kernel
theorem dX8_play_48 : decode cX8_play 48 = .ok (.lconst 0, 1) := by decide +kernel
theorem dX8_play_49 : decode cX8_play 49 = .ok (.lcmp, 1) := by decide +kernel
theorem dX8_play_50 : decode cX8_play 50 = .ok (.ifCond .lt 16, 3) := by decide +kernel
theorem dX8_play_53 : decode cX8_play 53 = .ok (.aload_n 0, 1) := by decide +kernel
theorem dX8_play_54 : decode cX8_play 54 = .ok (.iload_n 3, 1) := by decide +kernel
theorem dX8_play_55 : decode cX8_play 55 = .ok (.iload_n 2, 1) := by decide +kernel
theorem dX8_play_56 : decode cX8_play 56 = .ok (.iconst 1, 1) := by decide +kernel
theorem dX8_play_57 : decode cX8_play 57 = .ok (.iload_n 2, 1) := by decide +kernel
theorem dX8_play_58 : decode cX8_play 58 = .ok (.ishl, 1) := by decide +kernel
theorem dX8_play_59 : decode cX8_play 59 = .ok (.iconst 1, 1) := by decide +kernel
theorem dX8_play_60 : decode cX8_play 60 = .ok (.lload 4, 2) := by decide +kernel
theorem dX8_play_62 : decode cX8_play 62 = .ok (.l2i, 1) := by decide +kernel
theorem dX8_play_63 : decode cX8_play 63 = .ok (.invokevirtual 59, 3) := by decide +kernel
theorem dX8_play_66 : decode cX8_play 66 = .ok (.iinc 3 1, 3) := by decide +kernel
theorem dX8_play_69 : decode cX8_play 69 = .ok (.goto (-62), 3) := by decide +kernel
theorem dX8_play_72 : decode cX8_play 72 = .ok (.iconst 2, 1) := by decide +kernel
theorem dX8_play_73 : decode cX8_play 73 = .ok (.istore_n 3, 1) := by decide +kernel
theorem dX8_play_74 : decode cX8_play 74 = .ok (.iload_n 3, 1) := by decide +kernel
theorem dX8_play_75 : decode cX8_play 75 = .ok (.aload_n 1, 1) := by decide +kernel
theorem dX8_play_76 : decode cX8_play 76 = .ok (.invokevirtual 63, 3) := by decide +kernel
theorem dX8_play_79 : decode cX8_play 79 = .ok (.if_icmp .gt 18, 3) := by decide +kernel
theorem dX8_play_82 : decode cX8_play 82 = .ok (.aload_n 0, 1) := by decide +kernel
theorem dX8_play_83 : decode cX8_play 83 = .ok (.aload_n 1, 1) := by decide +kernel
theorem dX8_play_84 : decode cX8_play 84 = .ok (.getfield 41, 3) := by decide +kernel
theorem dX8_play_87 : decode cX8_play 87 = .ok (.iload_n 3, 1) := by decide +kernel
theorem dX8_play_88 : decode cX8_play 88 = .ok (.invokevirtual 67, 3) := by decide +kernel
theorem dX8_play_91 : decode cX8_play 91 = .ok (.iinc 3 1, 3) := by decide +kernel
theorem dX8_play_94 : decode cX8_play 94 = .ok (.goto (-20), 3) := by decide +kernel
theorem dX8_play_97 : decode cX8_play 97 = .ok (.aload_n 0, 1) := by decide +kernel
theorem dX8_play_98 : decode cX8_play 98 = .ok (.aload_n 1, 1) := by decide +kernel
theorem dX8_play_99 : decode cX8_play 99 = .ok (.iload_n 2, 1) := by decide +kernel
theorem dX8_play_100 : decode cX8_play 100 = .ok (.invokevirtual 71, 3) := by decide +kernel
theorem dX8_play_103 : decode cX8_play 103 = .ok (.return_, 1) := by decide +kernel
theorem dX8_latestRound_0 : decode cX8_latestRound 0 = .ok (.aload_n 0, 1) := by decide +kernel
theorem dX8_latestRound_1 : decode cX8_latestRound 1 = .ok (.getfield 9, 3) := by decide +kernel
theorem dX8_latestRound_4 : decode cX8_latestRound 4 = .ok (.iload_n 1, 1) := by decide +kernel
theorem dX8_latestRound_5 : decode cX8_latestRound 5 = .ok (.iaload, 1) := by decide +kernel
theorem dX8_latestRound_6 : decode cX8_latestRound 6 = .ok (.istore_n 2, 1) := by decide +kernel
theorem dX8_latestRound_7 : decode cX8_latestRound 7 = .ok (.iload_n 2, 1) := by decide +kernel
theorem dX8_latestRound_8 : decode cX8_latestRound 8 = .ok (.ifCond .ne 7, 3) := by decide +kernel
theorem dX8_latestRound_11 : decode cX8_latestRound 11 = .ok (.iconst 0, 1) := by decide +kernel
theorem dX8_latestRound_12 : decode cX8_latestRound 12 = .ok (.goto 16, 3) := by decide +kernel
theorem dX8_latestRound_15 : decode cX8_latestRound 15 = .ok (.aload_n 0, 1) := by decide +kernel
theorem dX8_latestRound_16 : decode cX8_latestRound 16 = .ok (.getfield 30, 3) := by decide +kernel
theorem dX8_latestRound_19 : decode cX8_latestRound 19 = .ok (.iload_n 1, 1) := by decide +kernel
theorem dX8_latestRound_20 : decode cX8_latestRound 20 = .ok (.bipush 7, 2) := by decide +kernel
theorem dX8_latestRound_22 : decode cX8_latestRound 22 = .ok (.imul, 1) := by decide +kernel
theorem dX8_latestRound_23 : decode cX8_latestRound 23 = .ok (.iload_n 2, 1) := by decide +kernel
theorem dX8_latestRound_24 : decode cX8_latestRound 24 = .ok (.iadd, 1) := by decide +kernel
theorem dX8_latestRound_25 : decode cX8_latestRound 25 = .ok (.iconst 1, 1) := by decide +kernel
theorem dX8_latestRound_26 : decode cX8_latestRound 26 = .ok (.isub, 1) := by decide +kernel
theorem dX8_latestRound_27 : decode cX8_latestRound 27 = .ok (.iaload, 1) := by decide +kernel
theorem dX8_latestRound_28 : decode cX8_latestRound 28 = .ok (.ireturn, 1) := by decide +kernel
theorem dX8_takenOf_0 : decode cX8_takenOf 0 = .ok (.iload_n 1, 1) := by decide +kernel
theorem dX8_takenOf_1 : decode cX8_takenOf 1 = .ok (.bipush 7, 2) := by decide +kernel
theorem dX8_takenOf_3 : decode cX8_takenOf 3 = .ok (.imul, 1) := by decide +kernel
theorem dX8_takenOf_4 : decode cX8_takenOf 4 = .ok (.iload_n 2, 1) := by decide +kernel
theorem dX8_takenOf_5 : decode cX8_takenOf 5 = .ok (.iadd, 1) := by decide +kernel
theorem dX8_takenOf_6 : decode cX8_takenOf 6 = .ok (.istore 4, 2) := by decide +kernel
theorem dX8_takenOf_8 : decode cX8_takenOf 8 = .ok (.iload_n 3, 1) := by decide +kernel
theorem dX8_takenOf_9 : decode cX8_takenOf 9 = .ok (.ifCond .ne 13, 3) := by decide +kernel
theorem dX8_takenOf_12 : decode cX8_takenOf 12 = .ok (.aload_n 0, 1) := by decide +kernel
theorem dX8_takenOf_13 : decode cX8_takenOf 13 = .ok (.getfield 21, 3) := by decide +kernel
theorem dX8_takenOf_16 : decode cX8_takenOf 16 = .ok (.iload 4, 2) := by decide +kernel
theorem dX8_takenOf_18 : decode cX8_takenOf 18 = .ok (.iaload, 1) := by decide +kernel
theorem dX8_takenOf_19 : decode cX8_takenOf 19 = .ok (.goto 10, 3) := by decide +kernel
theorem dX8_takenOf_22 : decode cX8_takenOf 22 = .ok (.aload_n 0, 1) := by decide +kernel
theorem dX8_takenOf_23 : decode cX8_takenOf 23 = .ok (.getfield 24, 3) := by decide +kernel
theorem dX8_takenOf_26 : decode cX8_takenOf 26 = .ok (.iload 4, 2) := by decide +kernel
theorem dX8_takenOf_28 : decode cX8_takenOf 28 = .ok (.iaload, 1) := by decide +kernel
theorem dX8_takenOf_29 : decode cX8_takenOf 29 = .ok (.ireturn, 1) := by decide +kernel
theorem dX8_begin_0 : decode cX8_begin 0 = .ok (.aload_n 0, 1) := by decide +kernel
theorem dX8_begin_1 : decode cX8_begin 1 = .ok (.aload_n 1, 1) := by decide +kernel
theorem dX8_begin_2 : decode cX8_begin 2 = .ok (.getfield 75, 3) := by decide +kernel
theorem dX8_begin_5 : decode cX8_begin 5 = .ok (.putfield 37, 3) := by decide +kernel
theorem dX8_begin_8 : decode cX8_begin 8 = .ok (.aload_n 0, 1) := by decide +kernel
theorem dX8_begin_9 : decode cX8_begin 9 = .ok (.iconst 0, 1) := by decide +kernel
theorem dX8_begin_10 : decode cX8_begin 10 = .ok (.putfield 76, 3) := by decide +kernel
theorem dX8_begin_13 : decode cX8_begin 13 = .ok (.aload_n 0, 1) := by decide +kernel
theorem dX8_begin_14 : decode cX8_begin 14 = .ok (.iconst 0, 1) := by decide +kernel
theorem dX8_begin_15 : decode cX8_begin 15 = .ok (.putfield 79, 3) := by decide +kernel
theorem dX8_begin_18 : decode cX8_begin 18 = .ok (.aload_n 0, 1) := by decide +kernel
theorem dX8_begin_19 : decode cX8_begin 19 = .ok (.iconst 0, 1) := by decide +kernel
theorem dX8_begin_20 : decode cX8_begin 20 = .ok (.putfield 82, 3) := by decide +kernel
theorem dX8_begin_23 : decode cX8_begin 23 = .ok (.iconst 0, 1) := by decide +kernel
theorem dX8_begin_24 : decode cX8_begin 24 = .ok (.istore_n 2, 1) := by decide +kernel
theorem dX8_begin_25 : decode cX8_begin 25 = .ok (.iload_n 2, 1) := by decide +kernel
theorem dX8_begin_26 : decode cX8_begin 26 = .ok (.bipush 7, 2) := by decide +kernel
theorem dX8_begin_28 : decode cX8_begin 28 = .ok (.if_icmp .ge 23, 3) := by decide +kernel
theorem dX8_begin_31 : decode cX8_begin 31 = .ok (.aload_n 0, 1) := by decide +kernel
theorem dX8_begin_32 : decode cX8_begin 32 = .ok (.getfield 9, 3) := by decide +kernel
theorem dX8_begin_35 : decode cX8_begin 35 = .ok (.iload_n 2, 1) := by decide +kernel
theorem dX8_begin_36 : decode cX8_begin 36 = .ok (.iconst 0, 1) := by decide +kernel
theorem dX8_begin_37 : decode cX8_begin 37 = .ok (.iastore, 1) := by decide +kernel
theorem dX8_begin_38 : decode cX8_begin 38 = .ok (.aload_n 0, 1) := by decide +kernel
theorem dX8_begin_39 : decode cX8_begin 39 = .ok (.getfield 15, 3) := by decide +kernel
theorem dX8_begin_42 : decode cX8_begin 42 = .ok (.iload_n 2, 1) := by decide +kernel
theorem dX8_begin_43 : decode cX8_begin 43 = .ok (.iconst 0, 1) := by decide +kernel
theorem dX8_begin_44 : decode cX8_begin 44 = .ok (.iastore, 1) := by decide +kernel
theorem dX8_begin_45 : decode cX8_begin 45 = .ok (.iinc 2 1, 3) := by decide +kernel
theorem dX8_begin_48 : decode cX8_begin 48 = .ok (.goto (-23), 3) := by decide +kernel
theorem dX8_begin_51 : decode cX8_begin 51 = .ok (.return_, 1) := by decide +kernel
theorem dX8_sayRound_0 : decode cX8_sayRound 0 = .ok (.iconst 0, 1) := by decide +kernel
theorem dX8_sayRound_1 : decode cX8_sayRound 1 = .ok (.istore_n 3, 1) := by decide +kernel
theorem dX8_sayRound_2 : decode cX8_sayRound 2 = .ok (.iload_n 3, 1) := by decide +kernel
theorem dX8_sayRound_3 : decode cX8_sayRound 3 = .ok (.aload_n 0, 1) := by decide +kernel
theorem dX8_sayRound_4 : decode cX8_sayRound 4 = .ok (.getfield 37, 3) := by decide +kernel
theorem dX8_sayRound_7 : decode cX8_sayRound 7 = .ok (.if_icmp .ge 60, 3) := by decide +kernel
theorem dX8_sayRound_10 : decode cX8_sayRound 10 = .ok (.iconst 0, 1) := by decide +kernel
theorem dX8_sayRound_11 : decode cX8_sayRound 11 = .ok (.istore 4, 2) := by decide +kernel
theorem dX8_sayRound_13 : decode cX8_sayRound 13 = .ok (.iload 4, 2) := by decide +kernel
theorem dX8_sayRound_15 : decode cX8_sayRound 15 = .ok (.aload_n 0, 1) := by decide +kernel
theorem dX8_sayRound_16 : decode cX8_sayRound 16 = .ok (.getfield 9, 3) := by decide +kernel
theorem dX8_sayRound_19 : decode cX8_sayRound 19 = .ok (.iload_n 3, 1) := by decide +kernel
theorem dX8_sayRound_20 : decode cX8_sayRound 20 = .ok (.iaload, 1) := by decide +kernel
theorem dX8_sayRound_21 : decode cX8_sayRound 21 = .ok (.if_icmp .ge 40, 3) := by decide +kernel
theorem dX8_sayRound_24 : decode cX8_sayRound 24 = .ok (.iload_n 3, 1) := by decide +kernel
theorem dX8_sayRound_25 : decode cX8_sayRound 25 = .ok (.bipush 7, 2) := by decide +kernel
theorem dX8_sayRound_27 : decode cX8_sayRound 27 = .ok (.imul, 1) := by decide +kernel
theorem dX8_sayRound_28 : decode cX8_sayRound 28 = .ok (.iload 4, 2) := by decide +kernel
theorem dX8_sayRound_30 : decode cX8_sayRound 30 = .ok (.iadd, 1) := by decide +kernel
theorem dX8_sayRound_31 : decode cX8_sayRound 31 = .ok (.istore 5, 2) := by decide +kernel
theorem dX8_sayRound_33 : decode cX8_sayRound 33 = .ok (.aload_n 0, 1) := by decide +kernel
theorem dX8_sayRound_34 : decode cX8_sayRound 34 = .ok (.getfield 30, 3) := by decide +kernel
theorem dX8_sayRound_37 : decode cX8_sayRound 37 = .ok (.iload 5, 2) := by decide +kernel
theorem dX8_sayRound_39 : decode cX8_sayRound 39 = .ok (.iaload, 1) := by decide +kernel
theorem dX8_sayRound_40 : decode cX8_sayRound 40 = .ok (.iload_n 2, 1) := by decide +kernel
theorem dX8_sayRound_41 : decode cX8_sayRound 41 = .ok (.iconst 1, 1) := by decide +kernel
theorem dX8_sayRound_42 : decode cX8_sayRound 42 = .ok (.isub, 1) := by decide +kernel
theorem dX8_sayRound_43 : decode cX8_sayRound 43 = .ok (.if_icmp .ne 12, 3) := by decide +kernel
theorem dX8_sayRound_46 : decode cX8_sayRound 46 = .ok (.aload_n 0, 1) := by decide +kernel
theorem dX8_sayRound_47 : decode cX8_sayRound 47 = .ok (.aload_n 1, 1) := by decide +kernel
theorem dX8_sayRound_48 : decode cX8_sayRound 48 = .ok (.iload_n 3, 1) := by decide +kernel
theorem dX8_sayRound_49 : decode cX8_sayRound 49 = .ok (.iload 5, 2) := by decide +kernel
theorem dX8_sayRound_51 : decode cX8_sayRound 51 = .ok (.iload_n 2, 1) := by decide +kernel
theorem dX8_sayRound_52 : decode cX8_sayRound 52 = .ok (.invokevirtual 85, 3) := by decide +kernel
theorem dX8_sayRound_55 : decode cX8_sayRound 55 = .ok (.iinc 4 1, 3) := by decide +kernel
theorem dX8_sayRound_58 : decode cX8_sayRound 58 = .ok (.goto (-45), 3) := by decide +kernel
theorem dX8_sayRound_61 : decode cX8_sayRound 61 = .ok (.iinc 3 1, 3) := by decide +kernel
theorem dX8_sayRound_64 : decode cX8_sayRound 64 = .ok (.goto (-62), 3) := by decide +kernel
theorem dX8_sayRound_67 : decode cX8_sayRound 67 = .ok (.return_, 1) := by decide +kernel
theorem dX8_passOn_0 : decode cX8_passOn 0 = .ok (.aload_n 0, 1) := by decide +kernel
theorem dX8_passOn_1 : decode cX8_passOn 1 = .ok (.getfield 24, 3) := by decide +kernel
theorem dX8_passOn_4 : decode cX8_passOn 4 = .ok (.iload_n 3, 1) := by decide +kernel
theorem dX8_passOn_5 : decode cX8_passOn 5 = .ok (.iaload, 1) := by decide +kernel
theorem dX8_passOn_6 : decode cX8_passOn 6 = .ok (.iconst 1, 1) := by decide +kernel
theorem dX8_passOn_7 : decode cX8_passOn 7 = .ok (.iload_n 2, 1) := by decide +kernel
theorem dX8_passOn_8 : decode cX8_passOn 8 = .ok (.ishl, 1) := by decide +kernel
theorem dX8_passOn_9 : decode cX8_passOn 9 = .ok (.ior, 1) := by decide +kernel
theorem dX8_passOn_10 : decode cX8_passOn 10 = .ok (.istore 5, 2) := by decide +kernel
theorem dX8_passOn_12 : decode cX8_passOn 12 = .ok (.iconst 0, 1) := by decide +kernel
theorem dX8_passOn_13 : decode cX8_passOn 13 = .ok (.istore 6, 2) := by decide +kernel
theorem dX8_passOn_15 : decode cX8_passOn 15 = .ok (.iload 6, 2) := by decide +kernel
theorem dX8_passOn_17 : decode cX8_passOn 17 = .ok (.aload_n 0, 1) := by decide +kernel
theorem dX8_passOn_18 : decode cX8_passOn 18 = .ok (.getfield 37, 3) := by decide +kernel
theorem dX8_passOn_21 : decode cX8_passOn 21 = .ok (.if_icmp .ge 105, 3) := by decide +kernel
theorem dX8_passOn_24 : decode cX8_passOn 24 = .ok (.iload 5, 2) := by decide +kernel
theorem dX8_passOn_26 : decode cX8_passOn 26 = .ok (.iload 6, 2) := by decide +kernel
theorem dX8_passOn_28 : decode cX8_passOn 28 = .ok (.invokestatic 89, 3) := by decide +kernel
theorem dX8_passOn_31 : decode cX8_passOn 31 = .ok (.ifCond .ne 89, 3) := by decide +kernel
theorem dX8_passOn_34 : decode cX8_passOn 34 = .ok (.aload_n 1, 1) := by decide +kernel
theorem dX8_passOn_35 : decode cX8_passOn 35 = .ok (.iload_n 2, 1) := by decide +kernel
theorem dX8_passOn_36 : decode cX8_passOn 36 = .ok (.iload 4, 2) := by decide +kernel
theorem dX8_passOn_38 : decode cX8_passOn 38 = .ok (.iload 6, 2) := by decide +kernel
theorem dX8_passOn_40 : decode cX8_passOn 40 = .ok (.aload_n 0, 1) := by decide +kernel
theorem dX8_passOn_41 : decode cX8_passOn 41 = .ok (.getfield 27, 3) := by decide +kernel
theorem dX8_passOn_44 : decode cX8_passOn 44 = .ok (.iload_n 3, 1) := by decide +kernel
theorem dX8_passOn_45 : decode cX8_passOn 45 = .ok (.iaload, 1) := by decide +kernel
theorem dX8_passOn_46 : decode cX8_passOn 46 = .ok (.aload_n 0, 1) := by decide +kernel
theorem dX8_passOn_47 : decode cX8_passOn 47 = .ok (.getfield 21, 3) := by decide +kernel
theorem dX8_passOn_50 : decode cX8_passOn 50 = .ok (.iload_n 3, 1) := by decide +kernel
theorem dX8_passOn_51 : decode cX8_passOn 51 = .ok (.iaload, 1) := by decide +kernel
theorem dX8_passOn_52 : decode cX8_passOn 52 = .ok (.invokevirtual 50, 3) := by decide +kernel
theorem dX8_passOn_55 : decode cX8_passOn 55 = .ok (.lstore 7, 2) := by decide +kernel
theorem dX8_passOn_57 : decode cX8_passOn 57 = .ok (.aload_n 0, 1) := by decide +kernel
theorem dX8_passOn_58 : decode cX8_passOn 58 = .ok (.iload_n 2, 1) := by decide +kernel
theorem dX8_passOn_59 : decode cX8_passOn 59 = .ok (.lload 7, 2) := by decide +kernel
theorem dX8_passOn_61 : decode cX8_passOn 61 = .ok (.invokevirtual 55, 3) := by decide +kernel
theorem dX8_passOn_64 : decode cX8_passOn 64 = .ok (.lload 7, 2) := by decide +kernel
theorem dX8_passOn_66 : decode cX8_passOn 66 = .ok (.lconst 0, 1) := by decide +kernel
theorem dX8_passOn_67 : decode cX8_passOn 67 = .ok (.lcmp, 1) := by decide +kernel
theorem dX8_passOn_68 : decode cX8_passOn 68 = .ok (.ifCond .lt 28, 3) := by decide +kernel
theorem dX8_passOn_71 : decode cX8_passOn 71 = .ok (.lload 7, 2) := by decide +kernel
theorem dX8_passOn_73 : decode cX8_passOn 73 = .ok (.l2i, 1) := by decide +kernel
theorem dX8_passOn_74 : decode cX8_passOn 74 = .ok (.aload_n 0, 1) := by decide +kernel
theorem dX8_passOn_75 : decode cX8_passOn 75 = .ok (.getfield 21, 3) := by decide +kernel
theorem dX8_passOn_78 : decode cX8_passOn 78 = .ok (.iload_n 3, 1) := by decide +kernel
theorem dX8_passOn_79 : decode cX8_passOn 79 = .ok (.iaload, 1) := by decide +kernel
theorem dX8_passOn_80 : decode cX8_passOn 80 = .ok (.if_icmp .eq 16, 3) := by decide +kernel
theorem dX8_passOn_83 : decode cX8_passOn 83 = .ok (.aload_n 0, 1) := by decide +kernel
theorem dX8_passOn_84 : decode cX8_passOn 84 = .ok (.dup, 1) := by decide +kernel
theorem dX8_passOn_85 : decode cX8_passOn 85 = .ok (.getfield 79, 3) := by decide +kernel
theorem dX8_passOn_88 : decode cX8_passOn 88 = .ok (.iconst 1, 1) := by decide +kernel
theorem dX8_passOn_89 : decode cX8_passOn 89 = .ok (.iadd, 1) := by decide +kernel
theorem dX8_passOn_90 : decode cX8_passOn 90 = .ok (.putfield 79, 3) := by decide +kernel
theorem dX8_passOn_93 : decode cX8_passOn 93 = .ok (.goto 27, 3) := by decide +kernel
theorem dX8_passOn_96 : decode cX8_passOn 96 = .ok (.lload 7, 2) := by decide +kernel
theorem dX8_passOn_98 : decode cX8_passOn 98 = .ok (.lconst 0, 1) := by decide +kernel
theorem dX8_passOn_99 : decode cX8_passOn 99 = .ok (.lcmp, 1) := by decide +kernel
theorem dX8_passOn_100 : decode cX8_passOn 100 = .ok (.ifCond .lt 20, 3) := by decide +kernel
theorem dX8_passOn_103 : decode cX8_passOn 103 = .ok (.aload_n 0, 1) := by decide +kernel
theorem dX8_passOn_104 : decode cX8_passOn 104 = .ok (.iload 6, 2) := by decide +kernel
theorem dX8_passOn_106 : decode cX8_passOn 106 = .ok (.iload_n 2, 1) := by decide +kernel
theorem dX8_passOn_107 : decode cX8_passOn 107 = .ok (.iload 5, 2) := by decide +kernel
theorem dX8_passOn_109 : decode cX8_passOn 109 = .ok (.iload 4, 2) := by decide +kernel
theorem dX8_passOn_111 : decode cX8_passOn 111 = .ok (.aload_n 0, 1) := by decide +kernel
theorem dX8_passOn_112 : decode cX8_passOn 112 = .ok (.getfield 21, 3) := by decide +kernel
theorem dX8_passOn_115 : decode cX8_passOn 115 = .ok (.iload_n 3, 1) := by decide +kernel
theorem dX8_passOn_116 : decode cX8_passOn 116 = .ok (.iaload, 1) := by decide +kernel
theorem dX8_passOn_117 : decode cX8_passOn 117 = .ok (.invokevirtual 59, 3) := by decide +kernel
theorem dX8_passOn_120 : decode cX8_passOn 120 = .ok (.iinc 6 1, 3) := by decide +kernel
theorem dX8_passOn_123 : decode cX8_passOn 123 = .ok (.goto (-108), 3) := by decide +kernel
theorem dX8_passOn_126 : decode cX8_passOn 126 = .ok (.return_, 1) := by decide +kernel
theorem dX8_countSaid_0 : decode cX8_countSaid 0 = .ok (.lload_n 2, 1) := by decide +kernel
theorem dX8_countSaid_1 : decode cX8_countSaid 1 = .ok (.ldc2_w 95, 3) := by decide +kernel
theorem dX8_countSaid_4 : decode cX8_countSaid 4 = .ok (.lcmp, 1) := by decide +kernel
theorem dX8_countSaid_5 : decode cX8_countSaid 5 = .ok (.ifCond .eq 23, 3) := by decide +kernel
theorem dX8_countSaid_8 : decode cX8_countSaid 8 = .ok (.aload_n 0, 1) := by decide +kernel
theorem dX8_countSaid_9 : decode cX8_countSaid 9 = .ok (.dup, 1) := by decide +kernel
theorem dX8_countSaid_10 : decode cX8_countSaid 10 = .ok (.getfield 76, 3) := by decide +kernel
theorem dX8_countSaid_13 : decode cX8_countSaid 13 = .ok (.iconst 1, 1) := by decide +kernel
theorem dX8_countSaid_14 : decode cX8_countSaid 14 = .ok (.iadd, 1) := by decide +kernel
theorem dX8_countSaid_15 : decode cX8_countSaid 15 = .ok (.putfield 76, 3) := by decide +kernel
theorem dX8_countSaid_18 : decode cX8_countSaid 18 = .ok (.aload_n 0, 1) := by decide +kernel
theorem dX8_countSaid_19 : decode cX8_countSaid 19 = .ok (.getfield 15, 3) := by decide +kernel
theorem dX8_countSaid_22 : decode cX8_countSaid 22 = .ok (.iload_n 1, 1) := by decide +kernel
theorem dX8_countSaid_23 : decode cX8_countSaid 23 = .ok (.dup2, 1) := by decide +kernel
theorem dX8_countSaid_24 : decode cX8_countSaid 24 = .ok (.iaload, 1) := by decide +kernel
theorem dX8_countSaid_25 : decode cX8_countSaid 25 = .ok (.iconst 1, 1) := by decide +kernel
theorem dX8_countSaid_26 : decode cX8_countSaid 26 = .ok (.iadd, 1) := by decide +kernel
theorem dX8_countSaid_27 : decode cX8_countSaid 27 = .ok (.iastore, 1) := by decide +kernel
theorem dX8_countSaid_28 : decode cX8_countSaid 28 = .ok (.aload_n 0, 1) := by decide +kernel
theorem dX8_countSaid_29 : decode cX8_countSaid 29 = .ok (.dup, 1) := by decide +kernel
theorem dX8_countSaid_30 : decode cX8_countSaid 30 = .ok (.getfield 82, 3) := by decide +kernel
theorem dX8_countSaid_33 : decode cX8_countSaid 33 = .ok (.lload_n 2, 1) := by decide +kernel
theorem dX8_countSaid_34 : decode cX8_countSaid 34 = .ok (.ldc2_w 97, 3) := by decide +kernel
theorem dX8_countSaid_37 : decode cX8_countSaid 37 = .ok (.lcmp, 1) := by decide +kernel
theorem dX8_countSaid_38 : decode cX8_countSaid 38 = .ok (.ifCond .ne 7, 3) := by decide +kernel
theorem dX8_countSaid_41 : decode cX8_countSaid 41 = .ok (.iconst 1, 1) := by decide +kernel
theorem dX8_countSaid_42 : decode cX8_countSaid 42 = .ok (.goto 4, 3) := by decide +kernel
theorem dX8_countSaid_45 : decode cX8_countSaid 45 = .ok (.iconst 0, 1) := by decide +kernel
theorem dX8_countSaid_46 : decode cX8_countSaid 46 = .ok (.iadd, 1) := by decide +kernel
theorem dX8_countSaid_47 : decode cX8_countSaid 47 = .ok (.putfield 82, 3) := by decide +kernel
theorem dX8_countSaid_50 : decode cX8_countSaid 50 = .ok (.return_, 1) := by decide +kernel
theorem dX8_take_0 : decode cX8_take 0 = .ok (.iload_n 1, 1) := by decide +kernel
theorem dX8_take_1 : decode cX8_take 1 = .ok (.bipush 7, 2) := by decide +kernel
theorem dX8_take_3 : decode cX8_take 3 = .ok (.imul, 1) := by decide +kernel
theorem dX8_take_4 : decode cX8_take 4 = .ok (.istore 6, 2) := by decide +kernel
theorem dX8_take_6 : decode cX8_take 6 = .ok (.aload_n 0, 1) := by decide +kernel
theorem dX8_take_7 : decode cX8_take 7 = .ok (.getfield 9, 3) := by decide +kernel
theorem dX8_take_10 : decode cX8_take 10 = .ok (.iload_n 1, 1) := by decide +kernel
theorem dX8_take_11 : decode cX8_take 11 = .ok (.iaload, 1) := by decide +kernel
theorem dX8_take_12 : decode cX8_take 12 = .ok (.istore 7, 2) := by decide +kernel
theorem dX8_take_14 : decode cX8_take 14 = .ok (.iload 7, 2) := by decide +kernel
theorem dX8_take_16 : decode cX8_take 16 = .ok (.bipush 7, 2) := by decide +kernel
theorem dX8_take_18 : decode cX8_take 18 = .ok (.if_icmp .ge 75, 3) := by decide +kernel
theorem dX8_take_21 : decode cX8_take 21 = .ok (.aload_n 0, 1) := by decide +kernel
theorem dX8_take_22 : decode cX8_take 22 = .ok (.getfield 21, 3) := by decide +kernel
theorem dX8_take_25 : decode cX8_take 25 = .ok (.iload 6, 2) := by decide +kernel
theorem dX8_take_27 : decode cX8_take 27 = .ok (.iload 7, 2) := by decide +kernel
theorem dX8_take_29 : decode cX8_take 29 = .ok (.iload 5, 2) := by decide +kernel
theorem dX8_take_31 : decode cX8_take 31 = .ok (.invokestatic 99, 3) := by decide +kernel
theorem dX8_take_34 : decode cX8_take 34 = .ok (.ifCond .ne 59, 3) := by decide +kernel
theorem dX8_take_37 : decode cX8_take 37 = .ok (.aload_n 0, 1) := by decide +kernel
theorem dX8_take_38 : decode cX8_take 38 = .ok (.getfield 21, 3) := by decide +kernel
theorem dX8_take_41 : decode cX8_take 41 = .ok (.iload 6, 2) := by decide +kernel
theorem dX8_take_43 : decode cX8_take 43 = .ok (.iload 7, 2) := by decide +kernel
theorem dX8_take_45 : decode cX8_take 45 = .ok (.iadd, 1) := by decide +kernel
theorem dX8_take_46 : decode cX8_take 46 = .ok (.iload 5, 2) := by decide +kernel
theorem dX8_take_48 : decode cX8_take 48 = .ok (.iastore, 1) := by decide +kernel
theorem dX8_take_49 : decode cX8_take 49 = .ok (.aload_n 0, 1) := by decide +kernel
theorem dX8_take_50 : decode cX8_take 50 = .ok (.getfield 24, 3) := by decide +kernel
theorem dX8_take_53 : decode cX8_take 53 = .ok (.iload 6, 2) := by decide +kernel
theorem dX8_take_55 : decode cX8_take 55 = .ok (.iload 7, 2) := by decide +kernel
theorem dX8_take_57 : decode cX8_take 57 = .ok (.iadd, 1) := by decide +kernel
theorem dX8_take_58 : decode cX8_take 58 = .ok (.iload_n 3, 1) := by decide +kernel
theorem dX8_take_59 : decode cX8_take 59 = .ok (.iastore, 1) := by decide +kernel
theorem dX8_take_60 : decode cX8_take 60 = .ok (.aload_n 0, 1) := by decide +kernel
theorem dX8_take_61 : decode cX8_take 61 = .ok (.getfield 27, 3) := by decide +kernel
theorem dX8_take_64 : decode cX8_take 64 = .ok (.iload 6, 2) := by decide +kernel
theorem dX8_take_66 : decode cX8_take 66 = .ok (.iload 7, 2) := by decide +kernel
theorem dX8_take_68 : decode cX8_take 68 = .ok (.iadd, 1) := by decide +kernel
theorem dX8_take_69 : decode cX8_take 69 = .ok (.iload_n 2, 1) := by decide +kernel
theorem dX8_take_70 : decode cX8_take 70 = .ok (.iastore, 1) := by decide +kernel
theorem dX8_take_71 : decode cX8_take 71 = .ok (.aload_n 0, 1) := by decide +kernel
theorem dX8_take_72 : decode cX8_take 72 = .ok (.getfield 30, 3) := by decide +kernel
theorem dX8_take_75 : decode cX8_take 75 = .ok (.iload 6, 2) := by decide +kernel
theorem dX8_take_77 : decode cX8_take 77 = .ok (.iload 7, 2) := by decide +kernel
theorem dX8_take_79 : decode cX8_take 79 = .ok (.iadd, 1) := by decide +kernel
theorem dX8_take_80 : decode cX8_take 80 = .ok (.iload 4, 2) := by decide +kernel
theorem dX8_take_82 : decode cX8_take 82 = .ok (.iastore, 1) := by decide +kernel
theorem dX8_take_83 : decode cX8_take 83 = .ok (.aload_n 0, 1) := by decide +kernel
theorem dX8_take_84 : decode cX8_take 84 = .ok (.getfield 9, 3) := by decide +kernel
theorem dX8_take_87 : decode cX8_take 87 = .ok (.iload_n 1, 1) := by decide +kernel
theorem dX8_take_88 : decode cX8_take 88 = .ok (.dup2, 1) := by decide +kernel
theorem dX8_take_89 : decode cX8_take 89 = .ok (.iaload, 1) := by decide +kernel
theorem dX8_take_90 : decode cX8_take 90 = .ok (.iconst 1, 1) := by decide +kernel
theorem dX8_take_91 : decode cX8_take 91 = .ok (.iadd, 1) := by decide +kernel
theorem dX8_take_92 : decode cX8_take 92 = .ok (.iastore, 1) := by decide +kernel
theorem dX8_take_93 : decode cX8_take 93 = .ok (.return_, 1) := by decide +kernel
theorem dX8_decide_0 : decode cX8_decide 0 = .ok (.iconst 0, 1) := by decide +kernel
theorem dX8_decide_1 : decode cX8_decide 1 = .ok (.istore_n 3, 1) := by decide +kernel
theorem dX8_decide_2 : decode cX8_decide 2 = .ok (.iload_n 3, 1) := by decide +kernel
theorem dX8_decide_3 : decode cX8_decide 3 = .ok (.aload_n 0, 1) := by decide +kernel
theorem dX8_decide_4 : decode cX8_decide 4 = .ok (.getfield 37, 3) := by decide +kernel
theorem dX8_decide_7 : decode cX8_decide 7 = .ok (.if_icmp .ge 45, 3) := by decide +kernel
theorem dX8_decide_10 : decode cX8_decide 10 = .ok (.aload_n 0, 1) := by decide +kernel
theorem dX8_decide_11 : decode cX8_decide 11 = .ok (.getfield 21, 3) := by decide +kernel
theorem dX8_decide_14 : decode cX8_decide 14 = .ok (.iload_n 3, 1) := by decide +kernel
theorem dX8_decide_15 : decode cX8_decide 15 = .ok (.bipush 7, 2) := by decide +kernel
theorem dX8_decide_17 : decode cX8_decide 17 = .ok (.imul, 1) := by decide +kernel
theorem dX8_decide_18 : decode cX8_decide 18 = .ok (.iaload, 1) := by decide +kernel
theorem dX8_decide_19 : decode cX8_decide 19 = .ok (.istore 4, 2) := by decide +kernel
theorem dX8_decide_21 : decode cX8_decide 21 = .ok (.aload_n 0, 1) := by decide +kernel
theorem dX8_decide_22 : decode cX8_decide 22 = .ok (.getfield 18, 3) := by decide +kernel
theorem dX8_decide_25 : decode cX8_decide 25 = .ok (.iload_n 3, 1) := by decide +kernel
theorem dX8_decide_26 : decode cX8_decide 26 = .ok (.aload_n 0, 1) := by decide +kernel
theorem dX8_decide_27 : decode cX8_decide 27 = .ok (.getfield 9, 3) := by decide +kernel
theorem dX8_decide_30 : decode cX8_decide 30 = .ok (.iload_n 3, 1) := by decide +kernel
theorem dX8_decide_31 : decode cX8_decide 31 = .ok (.iaload, 1) := by decide +kernel
theorem dX8_decide_32 : decode cX8_decide 32 = .ok (.iconst 1, 1) := by decide +kernel
theorem dX8_decide_33 : decode cX8_decide 33 = .ok (.if_icmp .ne 8, 3) := by decide +kernel
theorem dX8_decide_36 : decode cX8_decide 36 = .ok (.iload 4, 2) := by decide +kernel
theorem dX8_decide_38 : decode cX8_decide 38 = .ok (.goto 7, 3) := by decide +kernel
theorem dX8_decide_41 : decode cX8_decide 41 = .ok (.aload_n 1, 1) := by decide +kernel
theorem dX8_decide_42 : decode cX8_decide 42 = .ok (.getfield 103, 3) := by decide +kernel
theorem dX8_decide_45 : decode cX8_decide 45 = .ok (.iastore, 1) := by decide +kernel
theorem dX8_decide_46 : decode cX8_decide 46 = .ok (.iinc 3 1, 3) := by decide +kernel
theorem dX8_decide_49 : decode cX8_decide 49 = .ok (.goto (-47), 3) := by decide +kernel
theorem dX8_decide_52 : decode cX8_decide 52 = .ok (.aload_n 0, 1) := by decide +kernel
theorem dX8_decide_53 : decode cX8_decide 53 = .ok (.getfield 18, 3) := by decide +kernel
theorem dX8_decide_56 : decode cX8_decide 56 = .ok (.iload_n 2, 1) := by decide +kernel
theorem dX8_decide_57 : decode cX8_decide 57 = .ok (.aload_n 1, 1) := by decide +kernel
theorem dX8_decide_58 : decode cX8_decide 58 = .ok (.getfield 47, 3) := by decide +kernel
theorem dX8_decide_61 : decode cX8_decide 61 = .ok (.iload_n 2, 1) := by decide +kernel
theorem dX8_decide_62 : decode cX8_decide 62 = .ok (.iaload, 1) := by decide +kernel
theorem dX8_decide_63 : decode cX8_decide 63 = .ok (.iastore, 1) := by decide +kernel
theorem dX8_decide_64 : decode cX8_decide 64 = .ok (.aload_n 0, 1) := by decide +kernel
theorem dX8_decide_65 : decode cX8_decide 65 = .ok (.aload_n 0, 1) := by decide +kernel
theorem dX8_decide_66 : decode cX8_decide 66 = .ok (.getfield 18, 3) := by decide +kernel
theorem dX8_decide_69 : decode cX8_decide 69 = .ok (.aload_n 0, 1) := by decide +kernel
theorem dX8_decide_70 : decode cX8_decide 70 = .ok (.getfield 37, 3) := by decide +kernel
theorem dX8_decide_73 : decode cX8_decide 73 = .ok (.aload_n 1, 1) := by decide +kernel
theorem dX8_decide_74 : decode cX8_decide 74 = .ok (.getfield 41, 3) := by decide +kernel
theorem dX8_decide_77 : decode cX8_decide 77 = .ok (.getfield 106, 3) := by decide +kernel
theorem dX8_decide_80 : decode cX8_decide 80 = .ok (.invokestatic 109, 3) := by decide +kernel
theorem dX8_decide_83 : decode cX8_decide 83 = .ok (.putfield 113, 3) := by decide +kernel
theorem dX8_decide_86 : decode cX8_decide 86 = .ok (.return_, 1) := by decide +kernel
theorem dX9_alike_0 : decode cX9_alike 0 = .ok (.iconst 0, 1) := by decide +kernel
theorem dX9_alike_1 : decode cX9_alike 1 = .ok (.istore 4, 2) := by decide +kernel
theorem dX9_alike_3 : decode cX9_alike 3 = .ok (.iload_n 1, 1) := by decide +kernel
theorem dX9_alike_4 : decode cX9_alike 4 = .ok (.istore 5, 2) := by decide +kernel
theorem dX9_alike_6 : decode cX9_alike 6 = .ok (.iload 5, 2) := by decide +kernel
theorem dX9_alike_8 : decode cX9_alike 8 = .ok (.iload_n 1, 1) := by decide +kernel
theorem dX9_alike_9 : decode cX9_alike 9 = .ok (.iload_n 2, 1) := by decide +kernel
theorem dX9_alike_10 : decode cX9_alike 10 = .ok (.iadd, 1) := by decide +kernel
theorem dX9_alike_11 : decode cX9_alike 11 = .ok (.if_icmp .ge 34, 3) := by decide +kernel
theorem dX9_alike_14 : decode cX9_alike 14 = .ok (.iload 5, 2) := by decide +kernel
theorem dX9_alike_16 : decode cX9_alike 16 = .ok (.aload_n 0, 1) := by decide +kernel
theorem dX9_alike_17 : decode cX9_alike 17 = .ok (.arraylength, 1) := by decide +kernel
theorem dX9_alike_18 : decode cX9_alike 18 = .ok (.if_icmp .ge 27, 3) := by decide +kernel
theorem dX9_alike_21 : decode cX9_alike 21 = .ok (.iload 4, 2) := by decide +kernel
theorem dX9_alike_23 : decode cX9_alike 23 = .ok (.aload_n 0, 1) := by decide +kernel
theorem dX9_alike_24 : decode cX9_alike 24 = .ok (.iload 5, 2) := by decide +kernel
theorem dX9_alike_26 : decode cX9_alike 26 = .ok (.iaload, 1) := by decide +kernel
theorem dX9_alike_27 : decode cX9_alike 27 = .ok (.iload_n 3, 1) := by decide +kernel
theorem dX9_alike_28 : decode cX9_alike 28 = .ok (.if_icmp .ne 7, 3) := by decide +kernel
theorem dX9_alike_31 : decode cX9_alike 31 = .ok (.iconst 1, 1) := by decide +kernel
theorem dX9_alike_32 : decode cX9_alike 32 = .ok (.goto 4, 3) := by decide +kernel
theorem dX9_alike_35 : decode cX9_alike 35 = .ok (.iconst 0, 1) := by decide +kernel
theorem dX9_alike_36 : decode cX9_alike 36 = .ok (.iadd, 1) := by decide +kernel
theorem dX9_alike_37 : decode cX9_alike 37 = .ok (.istore 4, 2) := by decide +kernel
theorem dX9_alike_39 : decode cX9_alike 39 = .ok (.iinc 5 1, 3) := by decide +kernel
theorem dX9_alike_42 : decode cX9_alike 42 = .ok (.goto (-36), 3) := by decide +kernel
theorem dX9_alike_45 : decode cX9_alike 45 = .ok (.iload 4, 2) := by decide +kernel
theorem dX9_alike_47 : decode cX9_alike 47 = .ok (.ireturn, 1) := by decide +kernel
theorem dX9_firstOfMost_0 : decode cX9_firstOfMost 0 = .ok (.iconst 0, 1) := by decide +kernel
theorem dX9_firstOfMost_1 : decode cX9_firstOfMost 1 = .ok (.istore_n 2, 1) := by decide +kernel
theorem dX9_firstOfMost_2 : decode cX9_firstOfMost 2 = .ok (.iconst 0, 1) := by decide +kernel
theorem dX9_firstOfMost_3 : decode cX9_firstOfMost 3 = .ok (.istore_n 3, 1) := by decide +kernel
theorem dX9_firstOfMost_4 : decode cX9_firstOfMost 4 = .ok (.iconst 0, 1) := by decide +kernel
theorem dX9_firstOfMost_5 : decode cX9_firstOfMost 5 = .ok (.istore 4, 2) := by decide +kernel
theorem dX9_firstOfMost_7 : decode cX9_firstOfMost 7 = .ok (.iload 4, 2) := by decide +kernel
theorem dX9_firstOfMost_9 : decode cX9_firstOfMost 9 = .ok (.iload_n 1, 1) := by decide +kernel
theorem dX9_firstOfMost_10 : decode cX9_firstOfMost 10 = .ok (.if_icmp .ge 40, 3) := by decide +kernel
theorem dX9_firstOfMost_13 : decode cX9_firstOfMost 13 = .ok (.iload 4, 2) := by decide +kernel
theorem dX9_firstOfMost_15 : decode cX9_firstOfMost 15 = .ok (.aload_n 0, 1) := by decide +kernel
theorem dX9_firstOfMost_16 : decode cX9_firstOfMost 16 = .ok (.arraylength, 1) := by decide +kernel
theorem dX9_firstOfMost_17 : decode cX9_firstOfMost 17 = .ok (.if_icmp .ge 33, 3) := by decide +kernel
theorem dX9_firstOfMost_20 : decode cX9_firstOfMost 20 = .ok (.aload_n 0, 1) := by decide +kernel
theorem dX9_firstOfMost_21 : decode cX9_firstOfMost 21 = .ok (.iconst 0, 1) := by decide +kernel
theorem dX9_firstOfMost_22 : decode cX9_firstOfMost 22 = .ok (.iload_n 1, 1) := by decide +kernel
theorem dX9_firstOfMost_23 : decode cX9_firstOfMost 23 = .ok (.aload_n 0, 1) := by decide +kernel
theorem dX9_firstOfMost_24 : decode cX9_firstOfMost 24 = .ok (.iload 4, 2) := by decide +kernel
theorem dX9_firstOfMost_26 : decode cX9_firstOfMost 26 = .ok (.iaload, 1) := by decide +kernel
theorem dX9_firstOfMost_27 : decode cX9_firstOfMost 27 = .ok (.invokestatic 7, 3) := by decide +kernel
theorem dX9_firstOfMost_30 : decode cX9_firstOfMost 30 = .ok (.istore 5, 2) := by decide +kernel
theorem dX9_firstOfMost_32 : decode cX9_firstOfMost 32 = .ok (.iload 5, 2) := by decide +kernel
theorem dX9_firstOfMost_34 : decode cX9_firstOfMost 34 = .ok (.iload_n 3, 1) := by decide +kernel
theorem dX9_firstOfMost_35 : decode cX9_firstOfMost 35 = .ok (.if_icmp .le 9, 3) := by decide +kernel
theorem dX9_firstOfMost_38 : decode cX9_firstOfMost 38 = .ok (.iload 5, 2) := by decide +kernel
theorem dX9_firstOfMost_40 : decode cX9_firstOfMost 40 = .ok (.istore_n 3, 1) := by decide +kernel
theorem dX9_firstOfMost_41 : decode cX9_firstOfMost 41 = .ok (.iload 4, 2) := by decide +kernel
theorem dX9_firstOfMost_43 : decode cX9_firstOfMost 43 = .ok (.istore_n 2, 1) := by decide +kernel
theorem dX9_firstOfMost_44 : decode cX9_firstOfMost 44 = .ok (.iinc 4 1, 3) := by decide +kernel
theorem dX9_firstOfMost_47 : decode cX9_firstOfMost 47 = .ok (.goto (-40), 3) := by decide +kernel
theorem dX9_firstOfMost_50 : decode cX9_firstOfMost 50 = .ok (.iload_n 2, 1) := by decide +kernel
theorem dX9_firstOfMost_51 : decode cX9_firstOfMost 51 = .ok (.ireturn, 1) := by decide +kernel
theorem dX9_unlike_0 : decode cX9_unlike 0 = .ok (.iconst 0, 1) := by decide +kernel
theorem dX9_unlike_1 : decode cX9_unlike 1 = .ok (.istore_n 3, 1) := by decide +kernel
theorem dX9_unlike_2 : decode cX9_unlike 2 = .ok (.iconst 0, 1) := by decide +kernel
theorem dX9_unlike_3 : decode cX9_unlike 3 = .ok (.istore 4, 2) := by decide +kernel
theorem dX9_unlike_5 : decode cX9_unlike 5 = .ok (.iload 4, 2) := by decide +kernel
theorem dX9_unlike_7 : decode cX9_unlike 7 = .ok (.iload_n 1, 1) := by decide +kernel
theorem dX9_unlike_8 : decode cX9_unlike 8 = .ok (.if_icmp .ge 43, 3) := by decide +kernel
theorem dX9_unlike_11 : decode cX9_unlike 11 = .ok (.iload 4, 2) := by decide +kernel
theorem dX9_unlike_13 : decode cX9_unlike 13 = .ok (.aload_n 0, 1) := by decide +kernel
theorem dX9_unlike_14 : decode cX9_unlike 14 = .ok (.arraylength, 1) := by decide +kernel
theorem dX9_unlike_15 : decode cX9_unlike 15 = .ok (.if_icmp .ge 36, 3) := by decide +kernel
theorem dX9_unlike_18 : decode cX9_unlike 18 = .ok (.iload_n 3, 1) := by decide +kernel
theorem dX9_unlike_19 : decode cX9_unlike 19 = .ok (.iload_n 2, 1) := by decide +kernel
theorem dX9_unlike_20 : decode cX9_unlike 20 = .ok (.iload 4, 2) := by decide +kernel
theorem dX9_unlike_22 : decode cX9_unlike 22 = .ok (.invokestatic 13, 3) := by decide +kernel
theorem dX9_unlike_25 : decode cX9_unlike 25 = .ok (.ifCond .ne 13, 3) := by decide +kernel
theorem dX9_unlike_28 : decode cX9_unlike 28 = .ok (.aload_n 0, 1) := by decide +kernel
theorem dX9_unlike_29 : decode cX9_unlike 29 = .ok (.iload 4, 2) := by decide +kernel
theorem dX9_unlike_31 : decode cX9_unlike 31 = .ok (.iload_n 2, 1) := by decide +kernel
theorem dX9_unlike_32 : decode cX9_unlike 32 = .ok (.invokestatic 17, 3) := by decide +kernel
theorem dX9_unlike_35 : decode cX9_unlike 35 = .ok (.ifCond .eq 7, 3) := by decide +kernel
theorem dX9_unlike_38 : decode cX9_unlike 38 = .ok (.iconst 0, 1) := by decide +kernel
theorem dX9_unlike_39 : decode cX9_unlike 39 = .ok (.goto 4, 3) := by decide +kernel
theorem dX9_unlike_42 : decode cX9_unlike 42 = .ok (.iconst 1, 1) := by decide +kernel
theorem dX9_unlike_43 : decode cX9_unlike 43 = .ok (.iadd, 1) := by decide +kernel
theorem dX9_unlike_44 : decode cX9_unlike 44 = .ok (.istore_n 3, 1) := by decide +kernel
theorem dX9_unlike_45 : decode cX9_unlike 45 = .ok (.iinc 4 1, 3) := by decide +kernel
theorem dX9_unlike_48 : decode cX9_unlike 48 = .ok (.goto (-43), 3) := by decide +kernel
theorem dX9_unlike_51 : decode cX9_unlike 51 = .ok (.iload_n 3, 1) := by decide +kernel
theorem dX9_unlike_52 : decode cX9_unlike 52 = .ok (.ireturn, 1) := by decide +kernel
theorem dX9_isIn_0 : decode cX9_isIn 0 = .ok (.iload_n 0, 1) := by decide +kernel
theorem dX9_isIn_1 : decode cX9_isIn 1 = .ok (.iload_n 1, 1) := by decide +kernel
theorem dX9_isIn_2 : decode cX9_isIn 2 = .ok (.ishr, 1) := by decide +kernel
theorem dX9_isIn_3 : decode cX9_isIn 3 = .ok (.iconst 1, 1) := by decide +kernel
theorem dX9_isIn_4 : decode cX9_isIn 4 = .ok (.iand, 1) := by decide +kernel
theorem dX9_isIn_5 : decode cX9_isIn 5 = .ok (.ifCond .eq 7, 3) := by decide +kernel
theorem dX9_isIn_8 : decode cX9_isIn 8 = .ok (.iconst 1, 1) := by decide +kernel
theorem dX9_isIn_9 : decode cX9_isIn 9 = .ok (.goto 4, 3) := by decide +kernel
theorem dX9_isIn_12 : decode cX9_isIn 12 = .ok (.iconst 0, 1) := by decide +kernel
theorem dX9_isIn_13 : decode cX9_isIn 13 = .ok (.ireturn, 1) := by decide +kernel
theorem dX9_isAhead_0 : decode cX9_isAhead 0 = .ok (.iconst 0, 1) := by decide +kernel
theorem dX9_isAhead_1 : decode cX9_isAhead 1 = .ok (.istore_n 3, 1) := by decide +kernel
theorem dX9_isAhead_2 : decode cX9_isAhead 2 = .ok (.iload_n 3, 1) := by decide +kernel
theorem dX9_isAhead_3 : decode cX9_isAhead 3 = .ok (.iload_n 1, 1) := by decide +kernel
theorem dX9_isAhead_4 : decode cX9_isAhead 4 = .ok (.if_icmp .ge 28, 3) := by decide +kernel
theorem dX9_isAhead_7 : decode cX9_isAhead 7 = .ok (.iload_n 2, 1) := by decide +kernel
theorem dX9_isAhead_8 : decode cX9_isAhead 8 = .ok (.iload_n 3, 1) := by decide +kernel
theorem dX9_isAhead_9 : decode cX9_isAhead 9 = .ok (.invokestatic 13, 3) := by decide +kernel
theorem dX9_isAhead_12 : decode cX9_isAhead 12 = .ok (.ifCond .ne 14, 3) := by decide +kernel
theorem dX9_isAhead_15 : decode cX9_isAhead 15 = .ok (.aload_n 0, 1) := by decide +kernel
theorem dX9_isAhead_16 : decode cX9_isAhead 16 = .ok (.iload_n 3, 1) := by decide +kernel
theorem dX9_isAhead_17 : decode cX9_isAhead 17 = .ok (.iaload, 1) := by decide +kernel
theorem dX9_isAhead_18 : decode cX9_isAhead 18 = .ok (.aload_n 0, 1) := by decide +kernel
theorem dX9_isAhead_19 : decode cX9_isAhead 19 = .ok (.iload_n 1, 1) := by decide +kernel
theorem dX9_isAhead_20 : decode cX9_isAhead 20 = .ok (.iaload, 1) := by decide +kernel
theorem dX9_isAhead_21 : decode cX9_isAhead 21 = .ok (.if_icmp .ne 5, 3) := by decide +kernel
theorem dX9_isAhead_24 : decode cX9_isAhead 24 = .ok (.iconst 1, 1) := by decide +kernel
theorem dX9_isAhead_25 : decode cX9_isAhead 25 = .ok (.ireturn, 1) := by decide +kernel
theorem dX9_isAhead_26 : decode cX9_isAhead 26 = .ok (.iinc 3 1, 3) := by decide +kernel
theorem dX9_isAhead_29 : decode cX9_isAhead 29 = .ok (.goto (-27), 3) := by decide +kernel
theorem dX9_isAhead_32 : decode cX9_isAhead 32 = .ok (.iconst 0, 1) := by decide +kernel
theorem dX9_isAhead_33 : decode cX9_isAhead 33 = .ok (.ireturn, 1) := by decide +kernel
theorem dX10_init_0 : decode cX10_init 0 = .ok (.aload_n 0, 1) := by decide +kernel
theorem dX10_init_1 : decode cX10_init 1 = .ok (.invokespecial 1, 3) := by decide +kernel
theorem dX10_init_4 : decode cX10_init 4 = .ok (.aload_n 0, 1) := by decide +kernel
theorem dX10_init_5 : decode cX10_init 5 = .ok (.new 7, 3) := by decide +kernel
theorem dX10_init_8 : decode cX10_init 8 = .ok (.dup, 1) := by decide +kernel
theorem dX10_init_9 : decode cX10_init 9 = .ok (.invokespecial 9, 3) := by decide +kernel
theorem dX10_init_12 : decode cX10_init 12 = .ok (.putfield 10, 3) := by decide +kernel
theorem dX10_init_15 : decode cX10_init 15 = .ok (.aload_n 0, 1) := by decide +kernel
theorem dX10_init_16 : decode cX10_init 16 = .ok (.new 16, 3) := by decide +kernel
theorem dX10_init_19 : decode cX10_init 19 = .ok (.dup, 1) := by decide +kernel
theorem dX10_init_20 : decode cX10_init 20 = .ok (.invokespecial 18, 3) := by decide +kernel
theorem dX10_init_23 : decode cX10_init 23 = .ok (.putfield 19, 3) := by decide +kernel
theorem dX10_init_26 : decode cX10_init 26 = .ok (.aload_n 0, 1) := by decide +kernel
theorem dX10_init_27 : decode cX10_init 27 = .ok (.new 16, 3) := by decide +kernel
theorem dX10_init_30 : decode cX10_init 30 = .ok (.dup, 1) := by decide +kernel
theorem dX10_init_31 : decode cX10_init 31 = .ok (.invokespecial 18, 3) := by decide +kernel
theorem dX10_init_34 : decode cX10_init 34 = .ok (.putfield 23, 3) := by decide +kernel
theorem dX10_init_37 : decode cX10_init 37 = .ok (.aload_n 0, 1) := by decide +kernel
theorem dX10_init_38 : decode cX10_init 38 = .ok (.new 26, 3) := by decide +kernel
theorem dX10_init_41 : decode cX10_init 41 = .ok (.dup, 1) := by decide +kernel
theorem dX10_init_42 : decode cX10_init 42 = .ok (.invokespecial 28, 3) := by decide +kernel
theorem dX10_init_45 : decode cX10_init 45 = .ok (.putfield 29, 3) := by decide +kernel
theorem dX10_init_48 : decode cX10_init 48 = .ok (.aload_n 0, 1) := by decide +kernel
theorem dX10_init_49 : decode cX10_init 49 = .ok (.new 26, 3) := by decide +kernel
theorem dX10_init_52 : decode cX10_init 52 = .ok (.dup, 1) := by decide +kernel
theorem dX10_init_53 : decode cX10_init 53 = .ok (.invokespecial 28, 3) := by decide +kernel
theorem dX10_init_56 : decode cX10_init 56 = .ok (.putfield 33, 3) := by decide +kernel
theorem dX10_init_59 : decode cX10_init 59 = .ok (.aload_n 0, 1) := by decide +kernel
theorem dX10_init_60 : decode cX10_init 60 = .ok (.new 36, 3) := by decide +kernel
theorem dX10_init_63 : decode cX10_init 63 = .ok (.dup, 1) := by decide +kernel
theorem dX10_init_64 : decode cX10_init 64 = .ok (.invokespecial 38, 3) := by decide +kernel
theorem dX10_init_67 : decode cX10_init 67 = .ok (.putfield 39, 3) := by decide +kernel
theorem dX10_init_70 : decode cX10_init 70 = .ok (.aload_n 0, 1) := by decide +kernel
theorem dX10_init_71 : decode cX10_init 71 = .ok (.new 43, 3) := by decide +kernel
theorem dX10_init_74 : decode cX10_init 74 = .ok (.dup, 1) := by decide +kernel
theorem dX10_init_75 : decode cX10_init 75 = .ok (.invokespecial 45, 3) := by decide +kernel
theorem dX10_init_78 : decode cX10_init 78 = .ok (.putfield 46, 3) := by decide +kernel
theorem dX10_init_81 : decode cX10_init 81 = .ok (.aload_n 0, 1) := by decide +kernel
theorem dX10_init_82 : decode cX10_init 82 = .ok (.new 50, 3) := by decide +kernel
theorem dX10_init_85 : decode cX10_init 85 = .ok (.dup, 1) := by decide +kernel
theorem dX10_init_86 : decode cX10_init 86 = .ok (.invokespecial 52, 3) := by decide +kernel
theorem dX10_init_89 : decode cX10_init 89 = .ok (.putfield 53, 3) := by decide +kernel
theorem dX10_init_92 : decode cX10_init 92 = .ok (.aload_n 0, 1) := by decide +kernel
theorem dX10_init_93 : decode cX10_init 93 = .ok (.new 57, 3) := by decide +kernel
theorem dX10_init_96 : decode cX10_init 96 = .ok (.dup, 1) := by decide +kernel
theorem dX10_init_97 : decode cX10_init 97 = .ok (.invokespecial 59, 3) := by decide +kernel
theorem dX10_init_100 : decode cX10_init 100 = .ok (.putfield 60, 3) := by decide +kernel
theorem dX10_init_103 : decode cX10_init 103 = .ok (.aload_n 0, 1) := by decide +kernel
theorem dX10_init_104 : decode cX10_init 104 = .ok (.bipush 7, 2) := by decide +kernel
theorem dX10_init_106 : decode cX10_init 106 = .ok (.newarray .int, 2) := by decide +kernel
theorem dX10_init_108 : decode cX10_init 108 = .ok (.putfield 64, 3) := by decide +kernel
theorem dX10_init_111 : decode cX10_init 111 = .ok (.aload_n 0, 1) := by decide +kernel
theorem dX10_init_112 : decode cX10_init 112 = .ok (.getfield 19, 3) := by decide +kernel
theorem dX10_init_115 : decode cX10_init 115 = .ok (.iconst 4, 1) := by decide +kernel
theorem dX10_init_116 : decode cX10_init 116 = .ok (.iconst 1, 1) := by decide +kernel
theorem dX10_init_117 : decode cX10_init 117 = .ok (.invokevirtual 68, 3) := by decide +kernel
theorem dX10_init_120 : decode cX10_init 120 = .ok (.return_, 1) := by decide +kernel
theorem dX10_group_0 : decode cX10_group 0 = .ok (.aload_n 0, 1) := by decide +kernel
theorem dX10_group_1 : decode cX10_group 1 = .ok (.iload_n 1, 1) := by decide +kernel
theorem dX10_group_2 : decode cX10_group 2 = .ok (.iconst 3, 1) := by decide +kernel
theorem dX10_group_3 : decode cX10_group 3 = .ok (.if_icmp .lt 22, 3) := by decide +kernel
theorem dX10_group_6 : decode cX10_group 6 = .ok (.iload_n 1, 1) := by decide +kernel
theorem dX10_group_7 : decode cX10_group 7 = .ok (.bipush 7, 2) := by decide +kernel
theorem dX10_group_9 : decode cX10_group 9 = .ok (.if_icmp .gt 16, 3) := by decide +kernel
theorem dX10_group_12 : decode cX10_group 12 = .ok (.iload_n 2, 1) := by decide +kernel
theorem dX10_group_13 : decode cX10_group 13 = .ok (.ifCond .lt 12, 3) := by decide +kernel
theorem dX10_group_16 : decode cX10_group 16 = .ok (.iload_n 2, 1) := by decide +kernel
theorem dX10_group_17 : decode cX10_group 17 = .ok (.iconst 2, 1) := by decide +kernel
theorem dX10_group_18 : decode cX10_group 18 = .ok (.if_icmp .gt 7, 3) := by decide +kernel
theorem dX10_group_21 : decode cX10_group 21 = .ok (.iconst 1, 1) := by decide +kernel
theorem dX10_group_22 : decode cX10_group 22 = .ok (.goto 4, 3) := by decide +kernel
theorem dX10_group_25 : decode cX10_group 25 = .ok (.iconst 0, 1) := by decide +kernel
theorem dX10_group_26 : decode cX10_group 26 = .ok (.invokevirtual 72, 3) := by decide +kernel
theorem dX10_group_29 : decode cX10_group 29 = .ok (.aload_n 0, 1) := by decide +kernel
theorem dX10_group_30 : decode cX10_group 30 = .ok (.getfield 19, 3) := by decide +kernel
theorem dX10_group_33 : decode cX10_group 33 = .ok (.iload_n 1, 1) := by decide +kernel
theorem dX10_group_34 : decode cX10_group 34 = .ok (.iload_n 2, 1) := by decide +kernel
theorem dX10_group_35 : decode cX10_group 35 = .ok (.invokevirtual 68, 3) := by decide +kernel
theorem dX10_group_38 : decode cX10_group 38 = .ok (.aload_n 0, 1) := by decide +kernel
theorem dX10_group_39 : decode cX10_group 39 = .ok (.getfield 29, 3) := by decide +kernel
theorem dX10_group_42 : decode cX10_group 42 = .ok (.invokevirtual 76, 3) := by decide +kernel
theorem dX10_group_45 : decode cX10_group 45 = .ok (.aload_n 0, 1) := by decide +kernel
theorem dX10_group_46 : decode cX10_group 46 = .ok (.getfield 19, 3) := by decide +kernel
theorem dX10_group_49 : decode cX10_group 49 = .ok (.invokevirtual 79, 3) := by decide +kernel
theorem dX10_group_52 : decode cX10_group 52 = .ok (.ireturn, 1) := by decide +kernel
theorem dX10_value_0 : decode cX10_value 0 = .ok (.aload_n 0, 1) := by decide +kernel
theorem dX10_value_1 : decode cX10_value 1 = .ok (.aload_n 0, 1) := by decide +kernel
theorem dX10_value_2 : decode cX10_value 2 = .ok (.getfield 19, 3) := by decide +kernel
theorem dX10_value_5 : decode cX10_value 5 = .ok (.iload_n 1, 1) := by decide +kernel
theorem dX10_value_6 : decode cX10_value 6 = .ok (.invokevirtual 83, 3) := by decide +kernel
theorem dX10_value_9 : decode cX10_value 9 = .ok (.invokevirtual 87, 3) := by decide +kernel
theorem dX10_value_12 : decode cX10_value 12 = .ok (.aload_n 0, 1) := by decide +kernel
theorem dX10_value_13 : decode cX10_value 13 = .ok (.iload_n 2, 1) := by decide +kernel
theorem dX10_value_14 : decode cX10_value 14 = .ok (.iload_n 3, 1) := by decide +kernel
theorem dX10_value_15 : decode cX10_value 15 = .ok (.invokestatic 90, 3) := by decide +kernel
theorem dX10_value_18 : decode cX10_value 18 = .ok (.invokevirtual 72, 3) := by decide +kernel
theorem dX10_value_21 : decode cX10_value 21 = .ok (.aload_n 0, 1) := by decide +kernel
theorem dX10_value_22 : decode cX10_value 22 = .ok (.getfield 19, 3) := by decide +kernel
theorem dX10_value_25 : decode cX10_value 25 = .ok (.getfield 94, 3) := by decide +kernel
theorem dX10_value_28 : decode cX10_value 28 = .ok (.iload_n 1, 1) := by decide +kernel
theorem dX10_value_29 : decode cX10_value 29 = .ok (.iaload, 1) := by decide +kernel
theorem dX10_value_30 : decode cX10_value 30 = .ok (.istore 4, 2) := by decide +kernel
theorem dX10_value_32 : decode cX10_value 32 = .ok (.aload_n 0, 1) := by decide +kernel
theorem dX10_value_33 : decode cX10_value 33 = .ok (.getfield 19, 3) := by decide +kernel
theorem dX10_value_36 : decode cX10_value 36 = .ok (.getfield 94, 3) := by decide +kernel
theorem dX10_value_39 : decode cX10_value 39 = .ok (.iload_n 1, 1) := by decide +kernel
theorem dX10_value_40 : decode cX10_value 40 = .ok (.iload_n 2, 1) := by decide +kernel
theorem dX10_value_41 : decode cX10_value 41 = .ok (.i2f, 1) := by decide +kernel
theorem dX10_value_42 : decode cX10_value 42 = .ok (.iload_n 3, 1) := by decide +kernel
theorem dX10_value_43 : decode cX10_value 43 = .ok (.i2f, 1) := by decide +kernel
theorem dX10_value_44 : decode cX10_value 44 = .ok (.fdiv, 1) := by decide +kernel
theorem dX10_value_45 : decode cX10_value 45 = .ok (.invokestatic 97, 3) := by decide +kernel
theorem dX10_value_48 : decode cX10_value 48 = .ok (.iastore, 1) := by decide +kernel
theorem dX10_value_49 : decode cX10_value 49 = .ok (.iload 4, 2) := by decide +kernel
theorem dX10_value_51 : decode cX10_value 51 = .ok (.ireturn, 1) := by decide +kernel
theorem dX10_missing_0 : decode cX10_missing 0 = .ok (.aload_n 0, 1) := by decide +kernel
theorem dX10_missing_1 : decode cX10_missing 1 = .ok (.iload_n 1, 1) := by decide +kernel
theorem dX10_missing_2 : decode cX10_missing 2 = .ok (.iload_n 2, 1) := by decide +kernel
theorem dX10_missing_3 : decode cX10_missing 3 = .ok (.invokestatic 90, 3) := by decide +kernel
theorem dX10_missing_6 : decode cX10_missing 6 = .ok (.invokevirtual 72, 3) := by decide +kernel
theorem dX10_missing_9 : decode cX10_missing 9 = .ok (.aload_n 0, 1) := by decide +kernel
theorem dX10_missing_10 : decode cX10_missing 10 = .ok (.getfield 19, 3) := by decide +kernel
theorem dX10_missing_13 : decode cX10_missing 13 = .ok (.getfield 103, 3) := by decide +kernel
theorem dX10_missing_16 : decode cX10_missing 16 = .ok (.istore_n 3, 1) := by decide +kernel
theorem dX10_missing_17 : decode cX10_missing 17 = .ok (.aload_n 0, 1) := by decide +kernel
theorem dX10_missing_18 : decode cX10_missing 18 = .ok (.getfield 19, 3) := by decide +kernel
theorem dX10_missing_21 : decode cX10_missing 21 = .ok (.iload_n 1, 1) := by decide +kernel
theorem dX10_missing_22 : decode cX10_missing 22 = .ok (.i2f, 1) := by decide +kernel
theorem dX10_missing_23 : decode cX10_missing 23 = .ok (.iload_n 2, 1) := by decide +kernel
theorem dX10_missing_24 : decode cX10_missing 24 = .ok (.i2f, 1) := by decide +kernel
theorem dX10_missing_25 : decode cX10_missing 25 = .ok (.fdiv, 1) := by decide +kernel
theorem dX10_missing_26 : decode cX10_missing 26 = .ok (.invokestatic 97, 3) := by decide +kernel
theorem dX10_missing_29 : decode cX10_missing 29 = .ok (.putfield 103, 3) := by decide +kernel
theorem dX10_missing_32 : decode cX10_missing 32 = .ok (.iload_n 3, 1) := by decide +kernel
theorem dX10_missing_33 : decode cX10_missing 33 = .ok (.ireturn, 1) := by decide +kernel
theorem dX10_feed_0 : decode cX10_feed 0 = .ok (.aload_n 0, 1) := by decide +kernel
theorem dX10_feed_1 : decode cX10_feed 1 = .ok (.getfield 10, 3) := by decide +kernel
theorem dX10_feed_4 : decode cX10_feed 4 = .ok (.invokevirtual 107, 3) := by decide +kernel
theorem dX10_feed_7 : decode cX10_feed 7 = .ok (.ifCond .ne 5, 3) := by decide +kernel
theorem dX10_feed_10 : decode cX10_feed 10 = .ok (.iconst (-1), 1) := by decide +kernel
theorem dX10_feed_11 : decode cX10_feed 11 = .ok (.ireturn, 1) := by decide +kernel
theorem dX10_feed_12 : decode cX10_feed 12 = .ok (.aload_n 0, 1) := by decide +kernel
theorem dX10_feed_13 : decode cX10_feed 13 = .ok (.getfield 10, 3) := by decide +kernel
theorem dX10_feed_16 : decode cX10_feed 16 = .ok (.iload_n 1, 1) := by decide +kernel
theorem dX10_feed_17 : decode cX10_feed 17 = .ok (.invokevirtual 111, 3) := by decide +kernel
theorem dX10_feed_20 : decode cX10_feed 20 = .ok (.aload_n 0, 1) := by decide +kernel
theorem dX10_feed_21 : decode cX10_feed 21 = .ok (.getfield 10, 3) := by decide +kernel
theorem dX10_feed_24 : decode cX10_feed 24 = .ok (.iload_n 2, 1) := by decide +kernel
theorem dX10_feed_25 : decode cX10_feed 25 = .ok (.invokevirtual 111, 3) := by decide +kernel
theorem dX10_feed_28 : decode cX10_feed 28 = .ok (.aload_n 0, 1) := by decide +kernel
theorem dX10_feed_29 : decode cX10_feed 29 = .ok (.getfield 10, 3) := by decide +kernel
theorem dX10_feed_32 : decode cX10_feed 32 = .ok (.iload_n 3, 1) := by decide +kernel
theorem dX10_feed_33 : decode cX10_feed 33 = .ok (.invokevirtual 111, 3) := by decide +kernel
theorem dX10_feed_36 : decode cX10_feed 36 = .ok (.aload_n 0, 1) := by decide +kernel
theorem dX10_feed_37 : decode cX10_feed 37 = .ok (.getfield 10, 3) := by decide +kernel
theorem dX10_feed_40 : decode cX10_feed 40 = .ok (.iload 4, 2) := by decide +kernel
theorem dX10_feed_42 : decode cX10_feed 42 = .ok (.invokevirtual 111, 3) := by decide +kernel
theorem dX10_feed_45 : decode cX10_feed 45 = .ok (.aload_n 0, 1) := by decide +kernel
theorem dX10_feed_46 : decode cX10_feed 46 = .ok (.getfield 10, 3) := by decide +kernel
theorem dX10_feed_49 : decode cX10_feed 49 = .ok (.iload 5, 2) := by decide +kernel
theorem dX10_feed_51 : decode cX10_feed 51 = .ok (.invokevirtual 111, 3) := by decide +kernel
theorem dX10_feed_54 : decode cX10_feed 54 = .ok (.aload_n 0, 1) := by decide +kernel
theorem dX10_feed_55 : decode cX10_feed 55 = .ok (.getfield 10, 3) := by decide +kernel
theorem dX10_feed_58 : decode cX10_feed 58 = .ok (.getfield 115, 3) := by decide +kernel
theorem dX10_feed_61 : decode cX10_feed 61 = .ok (.ireturn, 1) := by decide +kernel
theorem dX10_lies_0 : decode cX10_lies 0 = .ok (.aload_n 0, 1) := by decide +kernel
theorem dX10_lies_1 : decode cX10_lies 1 = .ok (.iload_n 1, 1) := by decide +kernel
theorem dX10_lies_2 : decode cX10_lies 2 = .ok (.ifCond .lt 18, 3) := by decide +kernel
theorem dX10_lies_5 : decode cX10_lies 5 = .ok (.iload_n 1, 1) := by decide +kernel
theorem dX10_lies_6 : decode cX10_lies 6 = .ok (.aload_n 0, 1) := by decide +kernel
theorem dX10_lies_7 : decode cX10_lies 7 = .ok (.getfield 10, 3) := by decide +kernel
theorem dX10_lies_10 : decode cX10_lies 10 = .ok (.getfield 115, 3) := by decide +kernel
theorem dX10_lies_13 : decode cX10_lies 13 = .ok (.if_icmp .gt 7, 3) := by decide +kernel
theorem dX10_lies_16 : decode cX10_lies 16 = .ok (.iconst 1, 1) := by decide +kernel
theorem dX10_lies_17 : decode cX10_lies 17 = .ok (.goto 4, 3) := by decide +kernel
theorem dX10_lies_20 : decode cX10_lies 20 = .ok (.iconst 0, 1) := by decide +kernel
theorem dX10_lies_21 : decode cX10_lies 21 = .ok (.invokevirtual 72, 3) := by decide +kernel
theorem dX10_lies_24 : decode cX10_lies 24 = .ok (.aload_n 0, 1) := by decide +kernel
theorem dX10_lies_25 : decode cX10_lies 25 = .ok (.getfield 10, 3) := by decide +kernel
theorem dX10_lies_28 : decode cX10_lies 28 = .ok (.iload_n 1, 1) := by decide +kernel
theorem dX10_lies_29 : decode cX10_lies 29 = .ok (.aload_n 0, 1) := by decide +kernel
theorem dX10_lies_30 : decode cX10_lies 30 = .ok (.getfield 19, 3) := by decide +kernel
theorem dX10_lies_33 : decode cX10_lies 33 = .ok (.getfield 118, 3) := by decide +kernel
theorem dX10_lies_36 : decode cX10_lies 36 = .ok (.invokevirtual 121, 3) := by decide +kernel
theorem dX10_lies_39 : decode cX10_lies 39 = .ok (.istore_n 2, 1) := by decide +kernel
theorem dX10_lies_40 : decode cX10_lies 40 = .ok (.iload_n 2, 1) := by decide +kernel
theorem dX10_lies_41 : decode cX10_lies 41 = .ok (.ifCond .eq 8, 3) := by decide +kernel
theorem dX10_lies_44 : decode cX10_lies 44 = .ok (.iload_n 2, 1) := by decide +kernel
theorem dX10_lies_45 : decode cX10_lies 45 = .ok (.bipush 10, 2) := by decide +kernel
theorem dX10_lies_47 : decode cX10_lies 47 = .ok (.isub, 1) := by decide +kernel
theorem dX10_lies_48 : decode cX10_lies 48 = .ok (.ireturn, 1) := by decide +kernel
theorem dX10_lies_49 : decode cX10_lies 49 = .ok (.aload_n 0, 1) := by decide +kernel
theorem dX10_lies_50 : decode cX10_lies 50 = .ok (.getfield 19, 3) := by decide +kernel
theorem dX10_lies_53 : decode cX10_lies 53 = .ok (.getfield 125, 3) := by decide +kernel
theorem dX10_lies_56 : decode cX10_lies 56 = .ok (.astore_n 3, 1) := by decide +kernel
theorem dX10_lies_57 : decode cX10_lies 57 = .ok (.aload_n 0, 1) := by decide +kernel
theorem dX10_lies_58 : decode cX10_lies 58 = .ok (.getfield 19, 3) := by decide +kernel
theorem dX10_lies_61 : decode cX10_lies 61 = .ok (.aload_n 0, 1) := by decide +kernel
theorem dX10_lies_62 : decode cX10_lies 62 = .ok (.getfield 10, 3) := by decide +kernel
theorem dX10_lies_65 : decode cX10_lies 65 = .ok (.getfield 129, 3) := by decide +kernel
theorem dX10_lies_68 : decode cX10_lies 68 = .ok (.putfield 125, 3) := by decide +kernel
theorem dX10_lies_71 : decode cX10_lies 71 = .ok (.aload_n 0, 1) := by decide +kernel
theorem dX10_lies_72 : decode cX10_lies 72 = .ok (.getfield 10, 3) := by decide +kernel
theorem dX10_lies_75 : decode cX10_lies 75 = .ok (.aload_n 3, 1) := by decide +kernel
theorem dX10_lies_76 : decode cX10_lies 76 = .ok (.putfield 129, 3) := by decide +kernel
theorem dX10_lies_79 : decode cX10_lies 79 = .ok (.aload_n 0, 1) := by decide +kernel
theorem dX10_lies_80 : decode cX10_lies 80 = .ok (.getfield 19, 3) := by decide +kernel
theorem dX10_lies_83 : decode cX10_lies 83 = .ok (.getfield 125, 3) := by decide +kernel
theorem dX10_lies_86 : decode cX10_lies 86 = .ok (.getfield 132, 3) := by decide +kernel
theorem dX10_lies_89 : decode cX10_lies 89 = .ok (.invokestatic 137, 3) := by decide +kernel
theorem dX10_lies_92 : decode cX10_lies 92 = .ok (.ireturn, 1) := by decide +kernel
theorem dX10_fault_0 : decode cX10_fault 0 = .ok (.aload_n 0, 1) := by decide +kernel
theorem dX10_fault_1 : decode cX10_fault 1 = .ok (.getfield 10, 3) := by decide +kernel
theorem dX10_fault_4 : decode cX10_fault 4 = .ok (.getfield 143, 3) := by decide +kernel
theorem dX10_fault_7 : decode cX10_fault 7 = .ok (.ireturn, 1) := by decide +kernel
theorem dX10_run_0 : decode cX10_run 0 = .ok (.aload_n 0, 1) := by decide +kernel
theorem dX10_run_1 : decode cX10_run 1 = .ok (.aload_n 0, 1) := by decide +kernel
theorem dX10_run_2 : decode cX10_run 2 = .ok (.getfield 19, 3) := by decide +kernel
theorem dX10_run_5 : decode cX10_run 5 = .ok (.iload_n 1, 1) := by decide +kernel
theorem dX10_run_6 : decode cX10_run 6 = .ok (.invokevirtual 83, 3) := by decide +kernel
theorem dX10_run_9 : decode cX10_run 9 = .ok (.invokevirtual 87, 3) := by decide +kernel
theorem dX10_run_12 : decode cX10_run 12 = .ok (.aload_n 0, 1) := by decide +kernel
theorem dX10_run_13 : decode cX10_run 13 = .ok (.getfield 29, 3) := by decide +kernel
theorem dX10_run_16 : decode cX10_run 16 = .ok (.aload_n 0, 1) := by decide +kernel
theorem dX10_run_17 : decode cX10_run 17 = .ok (.getfield 19, 3) := by decide +kernel
theorem dX10_run_20 : decode cX10_run 20 = .ok (.iload_n 1, 1) := by decide +kernel
theorem dX10_run_21 : decode cX10_run 21 = .ok (.invokevirtual 146, 3) := by decide +kernel
theorem dX10_run_24 : decode cX10_run 24 = .ok (.aload_n 0, 1) := by decide +kernel
theorem dX10_run_25 : decode cX10_run 25 = .ok (.getfield 29, 3) := by decide +kernel
theorem dX10_run_28 : decode cX10_run 28 = .ok (.invokevirtual 150, 3) := by decide +kernel
theorem dX10_run_31 : decode cX10_run 31 = .ok (.ireturn, 1) := by decide +kernel
theorem dX10_told_0 : decode cX10_told 0 = .ok (.iload_n 1, 1) := by decide +kernel
theorem dX10_told_1 : decode cX10_told 1 = .ok (.tableswitch 141 0 9 #[55, 63, 71, 79, 90, 98, 106, 114, 125, 133], 55) := by decide +kernel
theorem dX10_told_56 : decode cX10_told 56 = .ok (.aload_n 0, 1) := by decide +kernel
theorem dX10_told_57 : decode cX10_told 57 = .ok (.getfield 19, 3) := by decide +kernel
theorem dX10_told_60 : decode cX10_told 60 = .ok (.getfield 118, 3) := by decide +kernel
theorem dX10_told_63 : decode cX10_told 63 = .ok (.ireturn, 1) := by decide +kernel
theorem dX10_told_64 : decode cX10_told 64 = .ok (.aload_n 0, 1) := by decide +kernel
theorem dX10_told_65 : decode cX10_told 65 = .ok (.getfield 19, 3) := by decide +kernel
theorem dX10_told_68 : decode cX10_told 68 = .ok (.getfield 153, 3) := by decide +kernel
theorem dX10_told_71 : decode cX10_told 71 = .ok (.ireturn, 1) := by decide +kernel
theorem dX10_told_72 : decode cX10_told 72 = .ok (.aload_n 0, 1) := by decide +kernel
theorem dX10_told_73 : decode cX10_told 73 = .ok (.getfield 19, 3) := by decide +kernel
theorem dX10_told_76 : decode cX10_told 76 = .ok (.invokevirtual 79, 3) := by decide +kernel
theorem dX10_told_79 : decode cX10_told 79 = .ok (.ireturn, 1) := by decide +kernel
theorem dX10_told_80 : decode cX10_told 80 = .ok (.aload_n 0, 1) := by decide +kernel
theorem dX10_told_81 : decode cX10_told 81 = .ok (.getfield 19, 3) := by decide +kernel
theorem dX10_told_84 : decode cX10_told 84 = .ok (.getfield 125, 3) := by decide +kernel
theorem dX10_told_87 : decode cX10_told 87 = .ok (.getfield 132, 3) := by decide +kernel
theorem dX10_told_90 : decode cX10_told 90 = .ok (.ireturn, 1) := by decide +kernel
theorem dX10_told_91 : decode cX10_told 91 = .ok (.aload_n 0, 1) := by decide +kernel
theorem dX10_told_92 : decode cX10_told 92 = .ok (.getfield 29, 3) := by decide +kernel
theorem dX10_told_95 : decode cX10_told 95 = .ok (.getfield 156, 3) := by decide +kernel
theorem dX10_told_98 : decode cX10_told 98 = .ok (.ireturn, 1) := by decide +kernel
theorem dX10_told_99 : decode cX10_told 99 = .ok (.aload_n 0, 1) := by decide +kernel
theorem dX10_told_100 : decode cX10_told 100 = .ok (.getfield 29, 3) := by decide +kernel
theorem dX10_told_103 : decode cX10_told 103 = .ok (.getfield 159, 3) := by decide +kernel
theorem dX10_told_106 : decode cX10_told 106 = .ok (.ireturn, 1) := by decide +kernel
theorem dX10_told_107 : decode cX10_told 107 = .ok (.aload_n 0, 1) := by decide +kernel
theorem dX10_told_108 : decode cX10_told 108 = .ok (.getfield 29, 3) := by decide +kernel
theorem dX10_told_111 : decode cX10_told 111 = .ok (.getfield 162, 3) := by decide +kernel
theorem dX10_told_114 : decode cX10_told 114 = .ok (.ireturn, 1) := by decide +kernel
theorem dX10_told_115 : decode cX10_told 115 = .ok (.aload_n 0, 1) := by decide +kernel
theorem dX10_told_116 : decode cX10_told 116 = .ok (.getfield 19, 3) := by decide +kernel
theorem dX10_told_119 : decode cX10_told 119 = .ok (.getfield 125, 3) := by decide +kernel
theorem dX10_told_122 : decode cX10_told 122 = .ok (.invokevirtual 165, 3) := by decide +kernel
theorem dX10_told_125 : decode cX10_told 125 = .ok (.ireturn, 1) := by decide +kernel
theorem dX10_told_126 : decode cX10_told 126 = .ok (.aload_n 0, 1) := by decide +kernel
theorem dX10_told_127 : decode cX10_told 127 = .ok (.getfield 10, 3) := by decide +kernel
theorem dX10_told_130 : decode cX10_told 130 = .ok (.getfield 115, 3) := by decide +kernel
theorem dX10_told_133 : decode cX10_told 133 = .ok (.ireturn, 1) := by decide +kernel
theorem dX10_told_134 : decode cX10_told 134 = .ok (.aload_n 0, 1) := by decide +kernel
theorem dX10_told_135 : decode cX10_told 135 = .ok (.getfield 19, 3) := by decide +kernel
theorem dX10_told_138 : decode cX10_told 138 = .ok (.getfield 103, 3) := by decide +kernel
theorem dX10_told_141 : decode cX10_told 141 = .ok (.ireturn, 1) := by decide +kernel
theorem dX10_told_142 : decode cX10_told 142 = .ok (.aload_n 0, 1) := by decide +kernel
theorem dX10_told_143 : decode cX10_told 143 = .ok (.iconst 0, 1) := by decide +kernel
theorem dX10_told_144 : decode cX10_told 144 = .ok (.invokevirtual 72, 3) := by decide +kernel
theorem dX10_told_147 : decode cX10_told 147 = .ok (.iconst (-1), 1) := by decide +kernel
theorem dX10_told_148 : decode cX10_told 148 = .ok (.ireturn, 1) := by decide +kernel
theorem dX10_member_0 : decode cX10_member 0 = .ok (.aload_n 0, 1) := by decide +kernel
theorem dX10_member_1 : decode cX10_member 1 = .ok (.aload_n 0, 1) := by decide +kernel
theorem dX10_member_2 : decode cX10_member 2 = .ok (.getfield 19, 3) := by decide +kernel
theorem dX10_member_5 : decode cX10_member 5 = .ok (.iload_n 1, 1) := by decide +kernel
theorem dX10_member_6 : decode cX10_member 6 = .ok (.invokevirtual 83, 3) := by decide +kernel
theorem dX10_member_9 : decode cX10_member 9 = .ok (.invokevirtual 87, 3) := by decide +kernel
theorem dX10_member_12 : decode cX10_member 12 = .ok (.iload_n 2, 1) := by decide +kernel
theorem dX10_member_13 : decode cX10_member 13 = .ok (.tableswitch 144 0 7 #[47, 57, 77, 86, 96, 106, 124, 134], 47) := by decide +kernel
theorem dX10_member_60 : decode cX10_member 60 = .ok (.aload_n 0, 1) := by decide +kernel
theorem dX10_member_61 : decode cX10_member 61 = .ok (.getfield 19, 3) := by decide +kernel
theorem dX10_member_64 : decode cX10_member 64 = .ok (.getfield 94, 3) := by decide +kernel
theorem dX10_member_67 : decode cX10_member 67 = .ok (.iload_n 1, 1) := by decide +kernel
theorem dX10_member_68 : decode cX10_member 68 = .ok (.iaload, 1) := by decide +kernel
theorem dX10_member_69 : decode cX10_member 69 = .ok (.ireturn, 1) := by decide +kernel
theorem dX10_member_70 : decode cX10_member 70 = .ok (.aload_n 0, 1) := by decide +kernel
theorem dX10_member_71 : decode cX10_member 71 = .ok (.getfield 19, 3) := by decide +kernel
theorem dX10_member_74 : decode cX10_member 74 = .ok (.getfield 125, 3) := by decide +kernel
theorem dX10_member_77 : decode cX10_member 77 = .ok (.iload_n 1, 1) := by decide +kernel
theorem dX10_member_78 : decode cX10_member 78 = .ok (.invokevirtual 168, 3) := by decide +kernel
theorem dX10_member_81 : decode cX10_member 81 = .ok (.ifCond .eq 7, 3) := by decide +kernel
theorem dX10_member_84 : decode cX10_member 84 = .ok (.iconst 1, 1) := by decide +kernel
theorem dX10_member_85 : decode cX10_member 85 = .ok (.goto 4, 3) := by decide +kernel
theorem dX10_member_88 : decode cX10_member 88 = .ok (.iconst 0, 1) := by decide +kernel
theorem dX10_member_89 : decode cX10_member 89 = .ok (.ireturn, 1) := by decide +kernel
theorem dX10_member_90 : decode cX10_member 90 = .ok (.aload_n 0, 1) := by decide +kernel
theorem dX10_member_91 : decode cX10_member 91 = .ok (.getfield 29, 3) := by decide +kernel
theorem dX10_member_94 : decode cX10_member 94 = .ok (.iload_n 1, 1) := by decide +kernel
theorem dX10_member_95 : decode cX10_member 95 = .ok (.invokevirtual 171, 3) := by decide +kernel
theorem dX10_member_98 : decode cX10_member 98 = .ok (.ireturn, 1) := by decide +kernel
theorem dX10_member_99 : decode cX10_member 99 = .ok (.aload_n 0, 1) := by decide +kernel
theorem dX10_member_100 : decode cX10_member 100 = .ok (.getfield 29, 3) := by decide +kernel
theorem dX10_member_103 : decode cX10_member 103 = .ok (.getfield 174, 3) := by decide +kernel
theorem dX10_member_106 : decode cX10_member 106 = .ok (.iload_n 1, 1) := by decide +kernel
theorem dX10_member_107 : decode cX10_member 107 = .ok (.iaload, 1) := by decide +kernel
theorem dX10_member_108 : decode cX10_member 108 = .ok (.ireturn, 1) := by decide +kernel
theorem dX10_member_109 : decode cX10_member 109 = .ok (.aload_n 0, 1) := by decide +kernel
theorem dX10_member_110 : decode cX10_member 110 = .ok (.getfield 29, 3) := by decide +kernel
theorem dX10_member_113 : decode cX10_member 113 = .ok (.getfield 177, 3) := by decide +kernel
theorem dX10_member_116 : decode cX10_member 116 = .ok (.iload_n 1, 1) := by decide +kernel
theorem dX10_member_117 : decode cX10_member 117 = .ok (.iaload, 1) := by decide +kernel
theorem dX10_member_118 : decode cX10_member 118 = .ok (.ireturn, 1) := by decide +kernel
theorem dX10_member_119 : decode cX10_member 119 = .ok (.aload_n 0, 1) := by decide +kernel
theorem dX10_member_120 : decode cX10_member 120 = .ok (.getfield 29, 3) := by decide +kernel
theorem dX10_member_123 : decode cX10_member 123 = .ok (.iload_n 1, 1) := by decide +kernel
theorem dX10_member_124 : decode cX10_member 124 = .ok (.aload_n 0, 1) := by decide +kernel
theorem dX10_member_125 : decode cX10_member 125 = .ok (.getfield 29, 3) := by decide +kernel
theorem dX10_member_128 : decode cX10_member 128 = .ok (.getfield 177, 3) := by decide +kernel
theorem dX10_member_131 : decode cX10_member 131 = .ok (.iload_n 1, 1) := by decide +kernel
theorem dX10_member_132 : decode cX10_member 132 = .ok (.iaload, 1) := by decide +kernel
theorem dX10_member_133 : decode cX10_member 133 = .ok (.invokevirtual 180, 3) := by decide +kernel
theorem dX10_member_136 : decode cX10_member 136 = .ok (.ireturn, 1) := by decide +kernel
theorem dX10_member_137 : decode cX10_member 137 = .ok (.aload_n 0, 1) := by decide +kernel
theorem dX10_member_138 : decode cX10_member 138 = .ok (.getfield 29, 3) := by decide +kernel
theorem dX10_member_141 : decode cX10_member 141 = .ok (.getfield 183, 3) := by decide +kernel
theorem dX10_member_144 : decode cX10_member 144 = .ok (.iload_n 1, 1) := by decide +kernel
theorem dX10_member_145 : decode cX10_member 145 = .ok (.iaload, 1) := by decide +kernel
theorem dX10_member_146 : decode cX10_member 146 = .ok (.ireturn, 1) := by decide +kernel
theorem dX10_member_147 : decode cX10_member 147 = .ok (.aload_n 0, 1) := by decide +kernel
theorem dX10_member_148 : decode cX10_member 148 = .ok (.getfield 29, 3) := by decide +kernel
theorem dX10_member_151 : decode cX10_member 151 = .ok (.getfield 186, 3) := by decide +kernel
theorem dX10_member_154 : decode cX10_member 154 = .ok (.iload_n 1, 1) := by decide +kernel
theorem dX10_member_155 : decode cX10_member 155 = .ok (.iaload, 1) := by decide +kernel
theorem dX10_member_156 : decode cX10_member 156 = .ok (.ireturn, 1) := by decide +kernel
theorem dX10_member_157 : decode cX10_member 157 = .ok (.aload_n 0, 1) := by decide +kernel
theorem dX10_member_158 : decode cX10_member 158 = .ok (.iconst 0, 1) := by decide +kernel
theorem dX10_member_159 : decode cX10_member 159 = .ok (.invokevirtual 72, 3) := by decide +kernel
theorem dX10_member_162 : decode cX10_member 162 = .ok (.iconst (-1), 1) := by decide +kernel
theorem dX10_member_163 : decode cX10_member 163 = .ok (.ireturn, 1) := by decide +kernel
theorem dX10_heard_0 : decode cX10_heard 0 = .ok (.aload_n 0, 1) := by decide +kernel
theorem dX10_heard_1 : decode cX10_heard 1 = .ok (.aload_n 0, 1) := by decide +kernel
theorem dX10_heard_2 : decode cX10_heard 2 = .ok (.getfield 19, 3) := by decide +kernel
theorem dX10_heard_5 : decode cX10_heard 5 = .ok (.iload_n 1, 1) := by decide +kernel
theorem dX10_heard_6 : decode cX10_heard 6 = .ok (.invokevirtual 83, 3) := by decide +kernel
theorem dX10_heard_9 : decode cX10_heard 9 = .ok (.invokevirtual 87, 3) := by decide +kernel
theorem dX10_heard_12 : decode cX10_heard 12 = .ok (.aload_n 0, 1) := by decide +kernel
theorem dX10_heard_13 : decode cX10_heard 13 = .ok (.getfield 29, 3) := by decide +kernel
theorem dX10_heard_16 : decode cX10_heard 16 = .ok (.iload_n 2, 1) := by decide +kernel
theorem dX10_heard_17 : decode cX10_heard 17 = .ok (.iload_n 3, 1) := by decide +kernel
theorem dX10_heard_18 : decode cX10_heard 18 = .ok (.iload 4, 2) := by decide +kernel
theorem dX10_heard_20 : decode cX10_heard 20 = .ok (.invokevirtual 189, 3) := by decide +kernel
theorem dX10_heard_23 : decode cX10_heard 23 = .ok (.istore 6, 2) := by decide +kernel
theorem dX10_heard_25 : decode cX10_heard 25 = .ok (.aload_n 0, 1) := by decide +kernel
theorem dX10_heard_26 : decode cX10_heard 26 = .ok (.iload 6, 2) := by decide +kernel
theorem dX10_heard_28 : decode cX10_heard 28 = .ok (.iconst (-1), 1) := by decide +kernel
theorem dX10_heard_29 : decode cX10_heard 29 = .ok (.if_icmp .eq 20, 3) := by decide +kernel
theorem dX10_heard_32 : decode cX10_heard 32 = .ok (.aload_n 0, 1) := by decide +kernel
theorem dX10_heard_33 : decode cX10_heard 33 = .ok (.getfield 29, 3) := by decide +kernel
theorem dX10_heard_36 : decode cX10_heard 36 = .ok (.iload_n 1, 1) := by decide +kernel
theorem dX10_heard_37 : decode cX10_heard 37 = .ok (.iload 6, 2) := by decide +kernel
theorem dX10_heard_39 : decode cX10_heard 39 = .ok (.invokevirtual 193, 3) := by decide +kernel
theorem dX10_heard_42 : decode cX10_heard 42 = .ok (.ifCond .eq 7, 3) := by decide +kernel
theorem dX10_heard_45 : decode cX10_heard 45 = .ok (.iconst 1, 1) := by decide +kernel
theorem dX10_heard_46 : decode cX10_heard 46 = .ok (.goto 4, 3) := by decide +kernel
theorem dX10_heard_49 : decode cX10_heard 49 = .ok (.iconst 0, 1) := by decide +kernel
theorem dX10_heard_50 : decode cX10_heard 50 = .ok (.invokevirtual 87, 3) := by decide +kernel
theorem dX10_heard_53 : decode cX10_heard 53 = .ok (.aload_n 0, 1) := by decide +kernel
theorem dX10_heard_54 : decode cX10_heard 54 = .ok (.iload 5, 2) := by decide +kernel
theorem dX10_heard_56 : decode cX10_heard 56 = .ok (.ifCond .lt 13, 3) := by decide +kernel
theorem dX10_heard_59 : decode cX10_heard 59 = .ok (.iload 5, 2) := by decide +kernel
theorem dX10_heard_61 : decode cX10_heard 61 = .ok (.iconst 2, 1) := by decide +kernel
theorem dX10_heard_62 : decode cX10_heard 62 = .ok (.if_icmp .gt 7, 3) := by decide +kernel
theorem dX10_heard_65 : decode cX10_heard 65 = .ok (.iconst 1, 1) := by decide +kernel
theorem dX10_heard_66 : decode cX10_heard 66 = .ok (.goto 4, 3) := by decide +kernel
theorem dX10_heard_69 : decode cX10_heard 69 = .ok (.iconst 0, 1) := by decide +kernel
theorem dX10_heard_70 : decode cX10_heard 70 = .ok (.invokevirtual 72, 3) := by decide +kernel
theorem dX10_heard_73 : decode cX10_heard 73 = .ok (.iload 5, 2) := by decide +kernel
theorem dX10_heard_75 : decode cX10_heard 75 = .ok (.ifCond .ne 14, 3) := by decide +kernel
theorem dX10_heard_78 : decode cX10_heard 78 = .ok (.aload_n 0, 1) := by decide +kernel
theorem dX10_heard_79 : decode cX10_heard 79 = .ok (.getfield 29, 3) := by decide +kernel
theorem dX10_heard_82 : decode cX10_heard 82 = .ok (.iload_n 1, 1) := by decide +kernel
theorem dX10_heard_83 : decode cX10_heard 83 = .ok (.iload 6, 2) := by decide +kernel
theorem dX10_heard_85 : decode cX10_heard 85 = .ok (.invokevirtual 196, 3) := by decide +kernel
theorem dX10_heard_88 : decode cX10_heard 88 = .ok (.ireturn, 1) := by decide +kernel
theorem dX10_heard_89 : decode cX10_heard 89 = .ok (.iload 5, 2) := by decide +kernel
theorem dX10_heard_91 : decode cX10_heard 91 = .ok (.iconst 1, 1) := by decide +kernel
theorem dX10_heard_92 : decode cX10_heard 92 = .ok (.if_icmp .ne 22, 3) := by decide +kernel
theorem dX10_heard_95 : decode cX10_heard 95 = .ok (.aload_n 0, 1) := by decide +kernel
theorem dX10_heard_96 : decode cX10_heard 96 = .ok (.getfield 29, 3) := by decide +kernel
theorem dX10_heard_99 : decode cX10_heard 99 = .ok (.iload_n 1, 1) := by decide +kernel
theorem dX10_heard_100 : decode cX10_heard 100 = .ok (.iload 6, 2) := by decide +kernel
theorem dX10_heard_102 : decode cX10_heard 102 = .ok (.invokevirtual 199, 3) := by decide +kernel
theorem dX10_heard_105 : decode cX10_heard 105 = .ok (.ifCond .eq 7, 3) := by decide +kernel
theorem dX10_heard_108 : decode cX10_heard 108 = .ok (.iconst 1, 1) := by decide +kernel
theorem dX10_heard_109 : decode cX10_heard 109 = .ok (.goto 4, 3) := by decide +kernel
theorem dX10_heard_112 : decode cX10_heard 112 = .ok (.iconst 0, 1) := by decide +kernel
theorem dX10_heard_113 : decode cX10_heard 113 = .ok (.ireturn, 1) := by decide +kernel
theorem dX10_heard_114 : decode cX10_heard 114 = .ok (.aload_n 0, 1) := by decide +kernel
theorem dX10_heard_115 : decode cX10_heard 115 = .ok (.getfield 29, 3) := by decide +kernel
theorem dX10_heard_118 : decode cX10_heard 118 = .ok (.iload_n 1, 1) := by decide +kernel
theorem dX10_heard_119 : decode cX10_heard 119 = .ok (.iload 6, 2) := by decide +kernel
theorem dX10_heard_121 : decode cX10_heard 121 = .ok (.invokevirtual 202, 3) := by decide +kernel
theorem dX10_heard_124 : decode cX10_heard 124 = .ok (.ireturn, 1) := by decide +kernel
theorem dX10_cut_0 : decode cX10_cut 0 = .ok (.aload_n 0, 1) := by decide +kernel
theorem dX10_cut_1 : decode cX10_cut 1 = .ok (.aload_n 0, 1) := by decide +kernel
theorem dX10_cut_2 : decode cX10_cut 2 = .ok (.getfield 19, 3) := by decide +kernel
theorem dX10_cut_5 : decode cX10_cut 5 = .ok (.iload_n 1, 1) := by decide +kernel
theorem dX10_cut_6 : decode cX10_cut 6 = .ok (.invokevirtual 83, 3) := by decide +kernel
theorem dX10_cut_9 : decode cX10_cut 9 = .ok (.invokevirtual 87, 3) := by decide +kernel
theorem dX10_cut_12 : decode cX10_cut 12 = .ok (.aload_n 0, 1) := by decide +kernel
theorem dX10_cut_13 : decode cX10_cut 13 = .ok (.iload_n 2, 1) := by decide +kernel
theorem dX10_cut_14 : decode cX10_cut 14 = .ok (.iconst 1, 1) := by decide +kernel
theorem dX10_cut_15 : decode cX10_cut 15 = .ok (.if_icmp .lt 18, 3) := by decide +kernel
theorem dX10_cut_18 : decode cX10_cut 18 = .ok (.iload_n 2, 1) := by decide +kernel
theorem dX10_cut_19 : decode cX10_cut 19 = .ok (.aload_n 0, 1) := by decide +kernel
theorem dX10_cut_20 : decode cX10_cut 20 = .ok (.getfield 19, 3) := by decide +kernel
theorem dX10_cut_23 : decode cX10_cut 23 = .ok (.invokevirtual 79, 3) := by decide +kernel
theorem dX10_cut_26 : decode cX10_cut 26 = .ok (.if_icmp .gt 7, 3) := by decide +kernel
theorem dX10_cut_29 : decode cX10_cut 29 = .ok (.iconst 1, 1) := by decide +kernel
theorem dX10_cut_30 : decode cX10_cut 30 = .ok (.goto 4, 3) := by decide +kernel
theorem dX10_cut_33 : decode cX10_cut 33 = .ok (.iconst 0, 1) := by decide +kernel
theorem dX10_cut_34 : decode cX10_cut 34 = .ok (.invokevirtual 72, 3) := by decide +kernel
theorem dX10_cut_37 : decode cX10_cut 37 = .ok (.aload_n 0, 1) := by decide +kernel
theorem dX10_cut_38 : decode cX10_cut 38 = .ok (.getfield 29, 3) := by decide +kernel
theorem dX10_cut_41 : decode cX10_cut 41 = .ok (.iload_n 1, 1) := by decide +kernel
theorem dX10_cut_42 : decode cX10_cut 42 = .ok (.iload_n 2, 1) := by decide +kernel
theorem dX10_cut_43 : decode cX10_cut 43 = .ok (.invokevirtual 180, 3) := by decide +kernel
theorem dX10_cut_46 : decode cX10_cut 46 = .ok (.ireturn, 1) := by decide +kernel
theorem dX10_common_0 : decode cX10_common 0 = .ok (.aload_n 0, 1) := by decide +kernel
theorem dX10_common_1 : decode cX10_common 1 = .ok (.getfield 29, 3) := by decide +kernel
theorem dX10_common_4 : decode cX10_common 4 = .ok (.iload_n 1, 1) := by decide +kernel
theorem dX10_common_5 : decode cX10_common 5 = .ok (.iload_n 2, 1) := by decide +kernel
theorem dX10_common_6 : decode cX10_common 6 = .ok (.iload_n 3, 1) := by decide +kernel
theorem dX10_common_7 : decode cX10_common 7 = .ok (.invokevirtual 189, 3) := by decide +kernel
theorem dX10_common_10 : decode cX10_common 10 = .ok (.istore 4, 2) := by decide +kernel
theorem dX10_common_12 : decode cX10_common 12 = .ok (.aload_n 0, 1) := by decide +kernel
theorem dX10_common_13 : decode cX10_common 13 = .ok (.iload 4, 2) := by decide +kernel
theorem dX10_common_15 : decode cX10_common 15 = .ok (.iconst (-1), 1) := by decide +kernel
theorem dX10_common_16 : decode cX10_common 16 = .ok (.if_icmp .eq 7, 3) := by decide +kernel
theorem dX10_common_19 : decode cX10_common 19 = .ok (.iconst 1, 1) := by decide +kernel
theorem dX10_common_20 : decode cX10_common 20 = .ok (.goto 4, 3) := by decide +kernel
theorem dX10_common_23 : decode cX10_common 23 = .ok (.iconst 0, 1) := by decide +kernel
theorem dX10_common_24 : decode cX10_common 24 = .ok (.invokevirtual 87, 3) := by decide +kernel
theorem dX10_common_27 : decode cX10_common 27 = .ok (.aload_n 0, 1) := by decide +kernel
theorem dX10_common_28 : decode cX10_common 28 = .ok (.getfield 29, 3) := by decide +kernel
theorem dX10_common_31 : decode cX10_common 31 = .ok (.iload 4, 2) := by decide +kernel
theorem dX10_common_33 : decode cX10_common 33 = .ok (.invokevirtual 205, 3) := by decide +kernel
theorem dX10_common_36 : decode cX10_common 36 = .ok (.ireturn, 1) := by decide +kernel
theorem dX10_commons_0 : decode cX10_commons 0 = .ok (.aload_n 0, 1) := by decide +kernel
theorem dX10_commons_1 : decode cX10_commons 1 = .ok (.iload_n 1, 1) := by decide +kernel
theorem dX10_commons_2 : decode cX10_commons 2 = .ok (.iconst 1, 1) := by decide +kernel
theorem dX10_commons_3 : decode cX10_commons 3 = .ok (.if_icmp .lt 18, 3) := by decide +kernel
theorem dX10_commons_6 : decode cX10_commons 6 = .ok (.iload_n 1, 1) := by decide +kernel
theorem dX10_commons_7 : decode cX10_commons 7 = .ok (.aload_n 0, 1) := by decide +kernel
theorem dX10_commons_8 : decode cX10_commons 8 = .ok (.getfield 19, 3) := by decide +kernel
theorem dX10_commons_11 : decode cX10_commons 11 = .ok (.invokevirtual 79, 3) := by decide +kernel
theorem dX10_commons_14 : decode cX10_commons 14 = .ok (.if_icmp .gt 7, 3) := by decide +kernel
theorem dX10_commons_17 : decode cX10_commons 17 = .ok (.iconst 1, 1) := by decide +kernel
theorem dX10_commons_18 : decode cX10_commons 18 = .ok (.goto 4, 3) := by decide +kernel
theorem dX10_commons_21 : decode cX10_commons 21 = .ok (.iconst 0, 1) := by decide +kernel
theorem dX10_commons_22 : decode cX10_commons 22 = .ok (.invokevirtual 72, 3) := by decide +kernel
theorem dX10_commons_25 : decode cX10_commons 25 = .ok (.aload_n 0, 1) := by decide +kernel
theorem dX10_commons_26 : decode cX10_commons 26 = .ok (.getfield 29, 3) := by decide +kernel
theorem dX10_commons_29 : decode cX10_commons 29 = .ok (.iload_n 1, 1) := by decide +kernel
theorem dX10_commons_30 : decode cX10_commons 30 = .ok (.invokevirtual 208, 3) := by decide +kernel
theorem dX10_commons_33 : decode cX10_commons 33 = .ok (.ireturn, 1) := by decide +kernel
theorem dX10_covered_0 : decode cX10_covered 0 = .ok (.aload_n 0, 1) := by decide +kernel
theorem dX10_covered_1 : decode cX10_covered 1 = .ok (.getfield 29, 3) := by decide +kernel
theorem dX10_covered_4 : decode cX10_covered 4 = .ok (.invokevirtual 211, 3) := by decide +kernel
theorem dX10_covered_7 : decode cX10_covered 7 = .ok (.ireturn, 1) := by decide +kernel
theorem dX10_agreed_0 : decode cX10_agreed 0 = .ok (.aload_n 0, 1) := by decide +kernel
theorem dX10_agreed_1 : decode cX10_agreed 1 = .ok (.iload_n 1, 1) := by decide +kernel
theorem dX10_agreed_2 : decode cX10_agreed 2 = .ok (.ifCond .eq 8, 3) := by decide +kernel
theorem dX10_agreed_5 : decode cX10_agreed 5 = .ok (.iload_n 1, 1) := by decide +kernel
theorem dX10_agreed_6 : decode cX10_agreed 6 = .ok (.iconst 1, 1) := by decide +kernel
theorem dX10_agreed_7 : decode cX10_agreed 7 = .ok (.if_icmp .ne 7, 3) := by decide +kernel
theorem dX10_agreed_10 : decode cX10_agreed 10 = .ok (.iconst 1, 1) := by decide +kernel
theorem dX10_agreed_11 : decode cX10_agreed 11 = .ok (.goto 4, 3) := by decide +kernel
theorem dX10_agreed_14 : decode cX10_agreed 14 = .ok (.iconst 0, 1) := by decide +kernel
theorem dX10_agreed_15 : decode cX10_agreed 15 = .ok (.invokevirtual 72, 3) := by decide +kernel
theorem dX10_agreed_18 : decode cX10_agreed 18 = .ok (.aload_n 0, 1) := by decide +kernel
theorem dX10_agreed_19 : decode cX10_agreed 19 = .ok (.getfield 29, 3) := by decide +kernel
theorem dX10_agreed_22 : decode cX10_agreed 22 = .ok (.getfield 156, 3) := by decide +kernel
theorem dX10_agreed_25 : decode cX10_agreed 25 = .ok (.iconst (-1), 1) := by decide +kernel
theorem dX10_agreed_26 : decode cX10_agreed 26 = .ok (.if_icmp .ne 5, 3) := by decide +kernel
theorem dX10_agreed_29 : decode cX10_agreed 29 = .ok (.iconst 0, 1) := by decide +kernel
theorem dX10_agreed_30 : decode cX10_agreed 30 = .ok (.ireturn, 1) := by decide +kernel
theorem dX10_agreed_31 : decode cX10_agreed 31 = .ok (.iload_n 1, 1) := by decide +kernel
theorem dX10_agreed_32 : decode cX10_agreed 32 = .ok (.ifCond .ne 22, 3) := by decide +kernel
theorem dX10_agreed_35 : decode cX10_agreed 35 = .ok (.aload_n 0, 1) := by decide +kernel
theorem dX10_agreed_36 : decode cX10_agreed 36 = .ok (.getfield 29, 3) := by decide +kernel
theorem dX10_agreed_39 : decode cX10_agreed 39 = .ok (.invokevirtual 150, 3) := by decide +kernel
theorem dX10_agreed_42 : decode cX10_agreed 42 = .ok (.iconst 1, 1) := by decide +kernel
theorem dX10_agreed_43 : decode cX10_agreed 43 = .ok (.if_icmp .gt 7, 3) := by decide +kernel
theorem dX10_agreed_46 : decode cX10_agreed 46 = .ok (.iconst 1, 1) := by decide +kernel
theorem dX10_agreed_47 : decode cX10_agreed 47 = .ok (.goto 14, 3) := by decide +kernel
theorem dX10_agreed_50 : decode cX10_agreed 50 = .ok (.iconst 0, 1) := by decide +kernel
theorem dX10_agreed_51 : decode cX10_agreed 51 = .ok (.goto 10, 3) := by decide +kernel
theorem dX10_agreed_54 : decode cX10_agreed 54 = .ok (.aload_n 0, 1) := by decide +kernel
theorem dX10_agreed_55 : decode cX10_agreed 55 = .ok (.getfield 29, 3) := by decide +kernel
theorem dX10_agreed_58 : decode cX10_agreed 58 = .ok (.invokevirtual 214, 3) := by decide +kernel
theorem dX10_agreed_61 : decode cX10_agreed 61 = .ok (.ireturn, 1) := by decide +kernel
theorem dX10_order_0 : decode cX10_order 0 = .ok (.aload_n 0, 1) := by decide +kernel
theorem dX10_order_1 : decode cX10_order 1 = .ok (.aload_n 0, 1) := by decide +kernel
theorem dX10_order_2 : decode cX10_order 2 = .ok (.getfield 19, 3) := by decide +kernel
theorem dX10_order_5 : decode cX10_order 5 = .ok (.iload_n 1, 1) := by decide +kernel
theorem dX10_order_6 : decode cX10_order 6 = .ok (.invokevirtual 83, 3) := by decide +kernel
theorem dX10_order_9 : decode cX10_order 9 = .ok (.ifCond .eq 18, 3) := by decide +kernel
theorem dX10_order_12 : decode cX10_order 12 = .ok (.aload_n 0, 1) := by decide +kernel
theorem dX10_order_13 : decode cX10_order 13 = .ok (.getfield 19, 3) := by decide +kernel
theorem dX10_order_16 : decode cX10_order 16 = .ok (.iload_n 2, 1) := by decide +kernel
theorem dX10_order_17 : decode cX10_order 17 = .ok (.invokevirtual 83, 3) := by decide +kernel
theorem dX10_order_20 : decode cX10_order 20 = .ok (.ifCond .eq 7, 3) := by decide +kernel
theorem dX10_order_23 : decode cX10_order 23 = .ok (.iconst 1, 1) := by decide +kernel
theorem dX10_order_24 : decode cX10_order 24 = .ok (.goto 4, 3) := by decide +kernel
theorem dX10_order_27 : decode cX10_order 27 = .ok (.iconst 0, 1) := by decide +kernel
theorem dX10_order_28 : decode cX10_order 28 = .ok (.invokevirtual 87, 3) := by decide +kernel
theorem dX10_order_31 : decode cX10_order 31 = .ok (.aload_n 0, 1) := by decide +kernel
theorem dX10_order_32 : decode cX10_order 32 = .ok (.getfield 33, 3) := by decide +kernel
theorem dX10_order_35 : decode cX10_order 35 = .ok (.aload_n 0, 1) := by decide +kernel
theorem dX10_order_36 : decode cX10_order 36 = .ok (.getfield 19, 3) := by decide +kernel
theorem dX10_order_39 : decode cX10_order 39 = .ok (.iload_n 2, 1) := by decide +kernel
theorem dX10_order_40 : decode cX10_order 40 = .ok (.invokevirtual 146, 3) := by decide +kernel
theorem dX10_order_43 : decode cX10_order 43 = .ok (.aload_n 0, 1) := by decide +kernel
theorem dX10_order_44 : decode cX10_order 44 = .ok (.getfield 33, 3) := by decide +kernel
theorem dX10_order_47 : decode cX10_order 47 = .ok (.iload_n 1, 1) := by decide +kernel
theorem dX10_order_48 : decode cX10_order 48 = .ok (.invokevirtual 171, 3) := by decide +kernel
theorem dX10_order_51 : decode cX10_order 51 = .ok (.ireturn, 1) := by decide +kernel
theorem dX10_most_0 : decode cX10_most 0 = .ok (.aload_n 0, 1) := by decide +kernel
theorem dX10_most_1 : decode cX10_most 1 = .ok (.aload_n 0, 1) := by decide +kernel
theorem dX10_most_2 : decode cX10_most 2 = .ok (.getfield 19, 3) := by decide +kernel
theorem dX10_most_5 : decode cX10_most 5 = .ok (.iload_n 1, 1) := by decide +kernel
theorem dX10_most_6 : decode cX10_most 6 = .ok (.invokevirtual 83, 3) := by decide +kernel
theorem dX10_most_9 : decode cX10_most 9 = .ok (.invokevirtual 87, 3) := by decide +kernel
theorem dX10_most_12 : decode cX10_most 12 = .ok (.aload_n 0, 1) := by decide +kernel
theorem dX10_most_13 : decode cX10_most 13 = .ok (.iload_n 2, 1) := by decide +kernel
theorem dX10_most_14 : decode cX10_most 14 = .ok (.ifCond .eq 8, 3) := by decide +kernel
theorem dX10_most_17 : decode cX10_most 17 = .ok (.iload_n 2, 1) := by decide +kernel
theorem dX10_most_18 : decode cX10_most 18 = .ok (.iconst 1, 1) := by decide +kernel
theorem dX10_most_19 : decode cX10_most 19 = .ok (.if_icmp .ne 7, 3) := by decide +kernel
theorem dX10_most_22 : decode cX10_most 22 = .ok (.iconst 1, 1) := by decide +kernel
theorem dX10_most_23 : decode cX10_most 23 = .ok (.goto 4, 3) := by decide +kernel
theorem dX10_most_26 : decode cX10_most 26 = .ok (.iconst 0, 1) := by decide +kernel
theorem dX10_most_27 : decode cX10_most 27 = .ok (.invokevirtual 72, 3) := by decide +kernel
theorem dX10_most_30 : decode cX10_most 30 = .ok (.iconst 0, 1) := by decide +kernel
theorem dX10_most_31 : decode cX10_most 31 = .ok (.istore_n 3, 1) := by decide +kernel
theorem dX10_most_32 : decode cX10_most 32 = .ok (.iload_n 3, 1) := by decide +kernel
theorem dX10_most_33 : decode cX10_most 33 = .ok (.aload_n 0, 1) := by decide +kernel
theorem dX10_most_34 : decode cX10_most 34 = .ok (.getfield 19, 3) := by decide +kernel
theorem dX10_most_37 : decode cX10_most 37 = .ok (.getfield 118, 3) := by decide +kernel
theorem dX10_most_40 : decode cX10_most 40 = .ok (.if_icmp .ge 35, 3) := by decide +kernel
theorem dX10_most_43 : decode cX10_most 43 = .ok (.aload_n 0, 1) := by decide +kernel
theorem dX10_most_44 : decode cX10_most 44 = .ok (.getfield 33, 3) := by decide +kernel
theorem dX10_most_47 : decode cX10_most 47 = .ok (.aload_n 0, 1) := by decide +kernel
theorem dX10_most_48 : decode cX10_most 48 = .ok (.getfield 19, 3) := by decide +kernel
theorem dX10_most_51 : decode cX10_most 51 = .ok (.iload_n 3, 1) := by decide +kernel
theorem dX10_most_52 : decode cX10_most 52 = .ok (.invokevirtual 146, 3) := by decide +kernel
theorem dX10_most_55 : decode cX10_most 55 = .ok (.aload_n 0, 1) := by decide +kernel
theorem dX10_most_56 : decode cX10_most 56 = .ok (.getfield 64, 3) := by decide +kernel
theorem dX10_most_59 : decode cX10_most 59 = .ok (.iload_n 3, 1) := by decide +kernel
theorem dX10_most_60 : decode cX10_most 60 = .ok (.aload_n 0, 1) := by decide +kernel
theorem dX10_most_61 : decode cX10_most 61 = .ok (.getfield 33, 3) := by decide +kernel
theorem dX10_most_64 : decode cX10_most 64 = .ok (.iload_n 1, 1) := by decide +kernel
theorem dX10_most_65 : decode cX10_most 65 = .ok (.invokevirtual 171, 3) := by decide +kernel
theorem dX10_most_68 : decode cX10_most 68 = .ok (.iastore, 1) := by decide +kernel
theorem dX10_most_69 : decode cX10_most 69 = .ok (.iinc 3 1, 3) := by decide +kernel
theorem dX10_most_72 : decode cX10_most 72 = .ok (.goto (-40), 3) := by decide +kernel
theorem dX10_most_75 : decode cX10_most 75 = .ok (.aload_n 0, 1) := by decide +kernel
theorem dX10_most_76 : decode cX10_most 76 = .ok (.getfield 64, 3) := by decide +kernel
theorem dX10_most_79 : decode cX10_most 79 = .ok (.aload_n 0, 1) := by decide +kernel
theorem dX10_most_80 : decode cX10_most 80 = .ok (.getfield 19, 3) := by decide +kernel
theorem dX10_most_83 : decode cX10_most 83 = .ok (.getfield 118, 3) := by decide +kernel
theorem dX10_most_86 : decode cX10_most 86 = .ok (.invokestatic 217, 3) := by decide +kernel
theorem dX10_most_89 : decode cX10_most 89 = .ok (.istore_n 3, 1) := by decide +kernel
theorem dX10_most_90 : decode cX10_most 90 = .ok (.iload_n 2, 1) := by decide +kernel
theorem dX10_most_91 : decode cX10_most 91 = .ok (.ifCond .ne 12, 3) := by decide +kernel
theorem dX10_most_94 : decode cX10_most 94 = .ok (.aload_n 0, 1) := by decide +kernel
theorem dX10_most_95 : decode cX10_most 95 = .ok (.getfield 64, 3) := by decide +kernel
theorem dX10_most_98 : decode cX10_most 98 = .ok (.iload_n 3, 1) := by decide +kernel
theorem dX10_most_99 : decode cX10_most 99 = .ok (.iaload, 1) := by decide +kernel
theorem dX10_most_100 : decode cX10_most 100 = .ok (.goto 24, 3) := by decide +kernel
theorem dX10_most_103 : decode cX10_most 103 = .ok (.aload_n 0, 1) := by decide +kernel
theorem dX10_most_104 : decode cX10_most 104 = .ok (.getfield 64, 3) := by decide +kernel
theorem dX10_most_107 : decode cX10_most 107 = .ok (.iconst 0, 1) := by decide +kernel
theorem dX10_most_108 : decode cX10_most 108 = .ok (.aload_n 0, 1) := by decide +kernel
theorem dX10_most_109 : decode cX10_most 109 = .ok (.getfield 19, 3) := by decide +kernel
theorem dX10_most_112 : decode cX10_most 112 = .ok (.getfield 118, 3) := by decide +kernel
theorem dX10_most_115 : decode cX10_most 115 = .ok (.aload_n 0, 1) := by decide +kernel
theorem dX10_most_116 : decode cX10_most 116 = .ok (.getfield 64, 3) := by decide +kernel
theorem dX10_most_119 : decode cX10_most 119 = .ok (.iload_n 3, 1) := by decide +kernel
theorem dX10_most_120 : decode cX10_most 120 = .ok (.iaload, 1) := by decide +kernel
theorem dX10_most_121 : decode cX10_most 121 = .ok (.invokestatic 223, 3) := by decide +kernel
theorem dX10_most_124 : decode cX10_most 124 = .ok (.ireturn, 1) := by decide +kernel
theorem dX10_agreeing_0 : decode cX10_agreeing 0 = .ok (.iconst 0, 1) := by decide +kernel
theorem dX10_agreeing_1 : decode cX10_agreeing 1 = .ok (.istore_n 1, 1) := by decide +kernel
theorem dX10_agreeing_2 : decode cX10_agreeing 2 = .ok (.iconst 0, 1) := by decide +kernel
theorem dX10_agreeing_3 : decode cX10_agreeing 3 = .ok (.istore_n 2, 1) := by decide +kernel
theorem dX10_agreeing_4 : decode cX10_agreeing 4 = .ok (.iload_n 2, 1) := by decide +kernel
theorem dX10_agreeing_5 : decode cX10_agreeing 5 = .ok (.aload_n 0, 1) := by decide +kernel
theorem dX10_agreeing_6 : decode cX10_agreeing 6 = .ok (.getfield 19, 3) := by decide +kernel
theorem dX10_agreeing_9 : decode cX10_agreeing 9 = .ok (.getfield 118, 3) := by decide +kernel
theorem dX10_agreeing_12 : decode cX10_agreeing 12 = .ok (.if_icmp .ge 40, 3) := by decide +kernel
theorem dX10_agreeing_15 : decode cX10_agreeing 15 = .ok (.aload_n 0, 1) := by decide +kernel
theorem dX10_agreeing_16 : decode cX10_agreeing 16 = .ok (.getfield 33, 3) := by decide +kernel
theorem dX10_agreeing_19 : decode cX10_agreeing 19 = .ok (.aload_n 0, 1) := by decide +kernel
theorem dX10_agreeing_20 : decode cX10_agreeing 20 = .ok (.getfield 19, 3) := by decide +kernel
theorem dX10_agreeing_23 : decode cX10_agreeing 23 = .ok (.iload_n 2, 1) := by decide +kernel
theorem dX10_agreeing_24 : decode cX10_agreeing 24 = .ok (.invokevirtual 146, 3) := by decide +kernel
theorem dX10_agreeing_27 : decode cX10_agreeing 27 = .ok (.iload_n 1, 1) := by decide +kernel
theorem dX10_agreeing_28 : decode cX10_agreeing 28 = .ok (.aload_n 0, 1) := by decide +kernel
theorem dX10_agreeing_29 : decode cX10_agreeing 29 = .ok (.getfield 33, 3) := by decide +kernel
theorem dX10_agreeing_32 : decode cX10_agreeing 32 = .ok (.invokevirtual 150, 3) := by decide +kernel
theorem dX10_agreeing_35 : decode cX10_agreeing 35 = .ok (.iconst 1, 1) := by decide +kernel
theorem dX10_agreeing_36 : decode cX10_agreeing 36 = .ok (.if_icmp .gt 7, 3) := by decide +kernel
theorem dX10_agreeing_39 : decode cX10_agreeing 39 = .ok (.iconst 1, 1) := by decide +kernel
theorem dX10_agreeing_40 : decode cX10_agreeing 40 = .ok (.goto 4, 3) := by decide +kernel
theorem dX10_agreeing_43 : decode cX10_agreeing 43 = .ok (.iconst 0, 1) := by decide +kernel
theorem dX10_agreeing_44 : decode cX10_agreeing 44 = .ok (.iadd, 1) := by decide +kernel
theorem dX10_agreeing_45 : decode cX10_agreeing 45 = .ok (.istore_n 1, 1) := by decide +kernel
theorem dX10_agreeing_46 : decode cX10_agreeing 46 = .ok (.iinc 2 1, 3) := by decide +kernel
theorem dX10_agreeing_49 : decode cX10_agreeing 49 = .ok (.goto (-45), 3) := by decide +kernel
theorem dX10_agreeing_52 : decode cX10_agreeing 52 = .ok (.iload_n 1, 1) := by decide +kernel
theorem dX10_agreeing_53 : decode cX10_agreeing 53 = .ok (.ireturn, 1) := by decide +kernel
theorem dX10_signed_0 : decode cX10_signed 0 = .ok (.aload_n 0, 1) := by decide +kernel
theorem dX10_signed_1 : decode cX10_signed 1 = .ok (.aload_n 0, 1) := by decide +kernel
theorem dX10_signed_2 : decode cX10_signed 2 = .ok (.getfield 19, 3) := by decide +kernel
theorem dX10_signed_5 : decode cX10_signed 5 = .ok (.iload_n 1, 1) := by decide +kernel
theorem dX10_signed_6 : decode cX10_signed 6 = .ok (.invokevirtual 83, 3) := by decide +kernel
theorem dX10_signed_9 : decode cX10_signed 9 = .ok (.invokevirtual 87, 3) := by decide +kernel
theorem dX10_signed_12 : decode cX10_signed 12 = .ok (.aload_n 0, 1) := by decide +kernel
theorem dX10_signed_13 : decode cX10_signed 13 = .ok (.iload_n 2, 1) := by decide +kernel
theorem dX10_signed_14 : decode cX10_signed 14 = .ok (.ifCond .lt 12, 3) := by decide +kernel
theorem dX10_signed_17 : decode cX10_signed 17 = .ok (.iload_n 2, 1) := by decide +kernel
theorem dX10_signed_18 : decode cX10_signed 18 = .ok (.iconst 3, 1) := by decide +kernel
theorem dX10_signed_19 : decode cX10_signed 19 = .ok (.if_icmp .gt 7, 3) := by decide +kernel
theorem dX10_signed_22 : decode cX10_signed 22 = .ok (.iconst 1, 1) := by decide +kernel
theorem dX10_signed_23 : decode cX10_signed 23 = .ok (.goto 4, 3) := by decide +kernel
theorem dX10_signed_26 : decode cX10_signed 26 = .ok (.iconst 0, 1) := by decide +kernel
theorem dX10_signed_27 : decode cX10_signed 27 = .ok (.invokevirtual 72, 3) := by decide +kernel
theorem dX10_signed_30 : decode cX10_signed 30 = .ok (.aload_n 0, 1) := by decide +kernel
theorem dX10_signed_31 : decode cX10_signed 31 = .ok (.getfield 39, 3) := by decide +kernel
theorem dX10_signed_34 : decode cX10_signed 34 = .ok (.aload_n 0, 1) := by decide +kernel
theorem dX10_signed_35 : decode cX10_signed 35 = .ok (.getfield 19, 3) := by decide +kernel
theorem dX10_signed_38 : decode cX10_signed 38 = .ok (.iload_n 1, 1) := by decide +kernel
theorem dX10_signed_39 : decode cX10_signed 39 = .ok (.invokevirtual 227, 3) := by decide +kernel
theorem dX10_signed_42 : decode cX10_signed 42 = .ok (.iload_n 2, 1) := by decide +kernel
theorem dX10_signed_43 : decode cX10_signed 43 = .ok (.tableswitch 49 0 2 #[25, 33, 41], 25) := by decide +kernel
theorem dX10_signed_68 : decode cX10_signed 68 = .ok (.aload_n 0, 1) := by decide +kernel
theorem dX10_signed_69 : decode cX10_signed 69 = .ok (.getfield 39, 3) := by decide +kernel
theorem dX10_signed_72 : decode cX10_signed 72 = .ok (.getfield 228, 3) := by decide +kernel
theorem dX10_signed_75 : decode cX10_signed 75 = .ok (.ireturn, 1) := by decide +kernel
theorem dX10_signed_76 : decode cX10_signed 76 = .ok (.aload_n 0, 1) := by decide +kernel
theorem dX10_signed_77 : decode cX10_signed 77 = .ok (.getfield 39, 3) := by decide +kernel
theorem dX10_signed_80 : decode cX10_signed 80 = .ok (.getfield 230, 3) := by decide +kernel
theorem dX10_signed_83 : decode cX10_signed 83 = .ok (.ireturn, 1) := by decide +kernel
theorem dX10_signed_84 : decode cX10_signed 84 = .ok (.aload_n 0, 1) := by decide +kernel
theorem dX10_signed_85 : decode cX10_signed 85 = .ok (.getfield 39, 3) := by decide +kernel
theorem dX10_signed_88 : decode cX10_signed 88 = .ok (.getfield 231, 3) := by decide +kernel
theorem dX10_signed_91 : decode cX10_signed 91 = .ok (.ireturn, 1) := by decide +kernel
theorem dX10_signed_92 : decode cX10_signed 92 = .ok (.aload_n 0, 1) := by decide +kernel
theorem dX10_signed_93 : decode cX10_signed 93 = .ok (.getfield 39, 3) := by decide +kernel
theorem dX10_signed_96 : decode cX10_signed 96 = .ok (.getfield 234, 3) := by decide +kernel
theorem dX10_signed_99 : decode cX10_signed 99 = .ok (.ireturn, 1) := by decide +kernel
theorem dX10_signedOf_0 : decode cX10_signedOf 0 = .ok (.aload_n 0, 1) := by decide +kernel
theorem dX10_signedOf_1 : decode cX10_signedOf 1 = .ok (.aload_n 0, 1) := by decide +kernel
theorem dX10_signedOf_2 : decode cX10_signedOf 2 = .ok (.getfield 19, 3) := by decide +kernel
theorem dX10_signedOf_5 : decode cX10_signedOf 5 = .ok (.iload_n 1, 1) := by decide +kernel
theorem dX10_signedOf_6 : decode cX10_signedOf 6 = .ok (.invokevirtual 83, 3) := by decide +kernel
theorem dX10_signedOf_9 : decode cX10_signedOf 9 = .ok (.ifCond .eq 18, 3) := by decide +kernel
theorem dX10_signedOf_12 : decode cX10_signedOf 12 = .ok (.aload_n 0, 1) := by decide +kernel
theorem dX10_signedOf_13 : decode cX10_signedOf 13 = .ok (.getfield 19, 3) := by decide +kernel
theorem dX10_signedOf_16 : decode cX10_signedOf 16 = .ok (.iload_n 2, 1) := by decide +kernel
theorem dX10_signedOf_17 : decode cX10_signedOf 17 = .ok (.invokevirtual 83, 3) := by decide +kernel
theorem dX10_signedOf_20 : decode cX10_signedOf 20 = .ok (.ifCond .eq 7, 3) := by decide +kernel
theorem dX10_signedOf_23 : decode cX10_signedOf 23 = .ok (.iconst 1, 1) := by decide +kernel
theorem dX10_signedOf_24 : decode cX10_signedOf 24 = .ok (.goto 4, 3) := by decide +kernel
theorem dX10_signedOf_27 : decode cX10_signedOf 27 = .ok (.iconst 0, 1) := by decide +kernel
theorem dX10_signedOf_28 : decode cX10_signedOf 28 = .ok (.invokevirtual 87, 3) := by decide +kernel
theorem dX10_signedOf_31 : decode cX10_signedOf 31 = .ok (.aload_n 0, 1) := by decide +kernel
theorem dX10_signedOf_32 : decode cX10_signedOf 32 = .ok (.iload_n 3, 1) := by decide +kernel
theorem dX10_signedOf_33 : decode cX10_signedOf 33 = .ok (.ifCond .lt 12, 3) := by decide +kernel
theorem dX10_signedOf_36 : decode cX10_signedOf 36 = .ok (.iload_n 3, 1) := by decide +kernel
theorem dX10_signedOf_37 : decode cX10_signedOf 37 = .ok (.iconst 3, 1) := by decide +kernel
theorem dX10_signedOf_38 : decode cX10_signedOf 38 = .ok (.if_icmp .gt 7, 3) := by decide +kernel
theorem dX10_signedOf_41 : decode cX10_signedOf 41 = .ok (.iconst 1, 1) := by decide +kernel
theorem dX10_signedOf_42 : decode cX10_signedOf 42 = .ok (.goto 4, 3) := by decide +kernel
theorem dX10_signedOf_45 : decode cX10_signedOf 45 = .ok (.iconst 0, 1) := by decide +kernel
theorem dX10_signedOf_46 : decode cX10_signedOf 46 = .ok (.invokevirtual 72, 3) := by decide +kernel
theorem dX10_signedOf_49 : decode cX10_signedOf 49 = .ok (.aload_n 0, 1) := by decide +kernel
theorem dX10_signedOf_50 : decode cX10_signedOf 50 = .ok (.getfield 39, 3) := by decide +kernel
theorem dX10_signedOf_53 : decode cX10_signedOf 53 = .ok (.aload_n 0, 1) := by decide +kernel
theorem dX10_signedOf_54 : decode cX10_signedOf 54 = .ok (.getfield 19, 3) := by decide +kernel
theorem dX10_signedOf_57 : decode cX10_signedOf 57 = .ok (.iload_n 1, 1) := by decide +kernel
theorem dX10_signedOf_58 : decode cX10_signedOf 58 = .ok (.invokevirtual 227, 3) := by decide +kernel
theorem dX10_signedOf_61 : decode cX10_signedOf 61 = .ok (.iload_n 3, 1) := by decide +kernel
theorem dX10_signedOf_62 : decode cX10_signedOf 62 = .ok (.tableswitch 56 0 2 #[26, 36, 46], 26) := by decide +kernel
theorem dX10_signedOf_88 : decode cX10_signedOf 88 = .ok (.aload_n 0, 1) := by decide +kernel
theorem dX10_signedOf_89 : decode cX10_signedOf 89 = .ok (.getfield 39, 3) := by decide +kernel
theorem dX10_signedOf_92 : decode cX10_signedOf 92 = .ok (.getfield 235, 3) := by decide +kernel
theorem dX10_signedOf_95 : decode cX10_signedOf 95 = .ok (.iload_n 2, 1) := by decide +kernel
theorem dX10_signedOf_96 : decode cX10_signedOf 96 = .ok (.iaload, 1) := by decide +kernel
theorem dX10_signedOf_97 : decode cX10_signedOf 97 = .ok (.ireturn, 1) := by decide +kernel
theorem dX10_signedOf_98 : decode cX10_signedOf 98 = .ok (.aload_n 0, 1) := by decide +kernel
theorem dX10_signedOf_99 : decode cX10_signedOf 99 = .ok (.getfield 39, 3) := by decide +kernel
theorem dX10_signedOf_102 : decode cX10_signedOf 102 = .ok (.getfield 237, 3) := by decide +kernel
theorem dX10_signedOf_105 : decode cX10_signedOf 105 = .ok (.iload_n 2, 1) := by decide +kernel
theorem dX10_signedOf_106 : decode cX10_signedOf 106 = .ok (.iaload, 1) := by decide +kernel
theorem dX10_signedOf_107 : decode cX10_signedOf 107 = .ok (.ireturn, 1) := by decide +kernel
theorem dX10_signedOf_108 : decode cX10_signedOf 108 = .ok (.aload_n 0, 1) := by decide +kernel
theorem dX10_signedOf_109 : decode cX10_signedOf 109 = .ok (.getfield 39, 3) := by decide +kernel
theorem dX10_signedOf_112 : decode cX10_signedOf 112 = .ok (.getfield 240, 3) := by decide +kernel
theorem dX10_signedOf_115 : decode cX10_signedOf 115 = .ok (.iload_n 2, 1) := by decide +kernel
theorem dX10_signedOf_116 : decode cX10_signedOf 116 = .ok (.iaload, 1) := by decide +kernel
theorem dX10_signedOf_117 : decode cX10_signedOf 117 = .ok (.ireturn, 1) := by decide +kernel
theorem dX10_signedOf_118 : decode cX10_signedOf 118 = .ok (.aload_n 0, 1) := by decide +kernel
theorem dX10_signedOf_119 : decode cX10_signedOf 119 = .ok (.getfield 39, 3) := by decide +kernel
theorem dX10_signedOf_122 : decode cX10_signedOf 122 = .ok (.iload_n 2, 1) := by decide +kernel
theorem dX10_signedOf_123 : decode cX10_signedOf 123 = .ok (.invokevirtual 241, 3) := by decide +kernel
theorem dX10_signedOf_126 : decode cX10_signedOf 126 = .ok (.ireturn, 1) := by decide +kernel
theorem dX10_taken_0 : decode cX10_taken 0 = .ok (.aload_n 0, 1) := by decide +kernel
theorem dX10_taken_1 : decode cX10_taken 1 = .ok (.aload_n 0, 1) := by decide +kernel
theorem dX10_taken_2 : decode cX10_taken 2 = .ok (.getfield 19, 3) := by decide +kernel
theorem dX10_taken_5 : decode cX10_taken 5 = .ok (.iload_n 1, 1) := by decide +kernel
theorem dX10_taken_6 : decode cX10_taken 6 = .ok (.invokevirtual 83, 3) := by decide +kernel
theorem dX10_taken_9 : decode cX10_taken 9 = .ok (.ifCond .eq 18, 3) := by decide +kernel
theorem dX10_taken_12 : decode cX10_taken 12 = .ok (.aload_n 0, 1) := by decide +kernel
theorem dX10_taken_13 : decode cX10_taken 13 = .ok (.getfield 19, 3) := by decide +kernel
theorem dX10_taken_16 : decode cX10_taken 16 = .ok (.iload_n 2, 1) := by decide +kernel
theorem dX10_taken_17 : decode cX10_taken 17 = .ok (.invokevirtual 83, 3) := by decide +kernel
theorem dX10_taken_20 : decode cX10_taken 20 = .ok (.ifCond .eq 7, 3) := by decide +kernel
theorem dX10_taken_23 : decode cX10_taken 23 = .ok (.iconst 1, 1) := by decide +kernel
theorem dX10_taken_24 : decode cX10_taken 24 = .ok (.goto 4, 3) := by decide +kernel
theorem dX10_taken_27 : decode cX10_taken 27 = .ok (.iconst 0, 1) := by decide +kernel
theorem dX10_taken_28 : decode cX10_taken 28 = .ok (.invokevirtual 87, 3) := by decide +kernel
theorem dX10_taken_31 : decode cX10_taken 31 = .ok (.aload_n 0, 1) := by decide +kernel
theorem dX10_taken_32 : decode cX10_taken 32 = .ok (.getfield 39, 3) := by decide +kernel
theorem dX10_taken_35 : decode cX10_taken 35 = .ok (.aload_n 0, 1) := by decide +kernel
theorem dX10_taken_36 : decode cX10_taken 36 = .ok (.getfield 19, 3) := by decide +kernel
theorem dX10_taken_39 : decode cX10_taken 39 = .ok (.iload_n 1, 1) := by decide +kernel
theorem dX10_taken_40 : decode cX10_taken 40 = .ok (.invokevirtual 227, 3) := by decide +kernel
theorem dX10_taken_43 : decode cX10_taken 43 = .ok (.aload_n 0, 1) := by decide +kernel
theorem dX10_taken_44 : decode cX10_taken 44 = .ok (.iload_n 3, 1) := by decide +kernel
theorem dX10_taken_45 : decode cX10_taken 45 = .ok (.ifCond .lt 20, 3) := by decide +kernel
theorem dX10_taken_48 : decode cX10_taken 48 = .ok (.iload_n 3, 1) := by decide +kernel
theorem dX10_taken_49 : decode cX10_taken 49 = .ok (.aload_n 0, 1) := by decide +kernel
theorem dX10_taken_50 : decode cX10_taken 50 = .ok (.getfield 39, 3) := by decide +kernel
theorem dX10_taken_53 : decode cX10_taken 53 = .ok (.getfield 237, 3) := by decide +kernel
theorem dX10_taken_56 : decode cX10_taken 56 = .ok (.iload_n 2, 1) := by decide +kernel
theorem dX10_taken_57 : decode cX10_taken 57 = .ok (.iaload, 1) := by decide +kernel
theorem dX10_taken_58 : decode cX10_taken 58 = .ok (.if_icmp .ge 7, 3) := by decide +kernel
theorem dX10_taken_61 : decode cX10_taken 61 = .ok (.iconst 1, 1) := by decide +kernel
theorem dX10_taken_62 : decode cX10_taken 62 = .ok (.goto 4, 3) := by decide +kernel
theorem dX10_taken_65 : decode cX10_taken 65 = .ok (.iconst 0, 1) := by decide +kernel
theorem dX10_taken_66 : decode cX10_taken 66 = .ok (.invokevirtual 87, 3) := by decide +kernel
theorem dX10_taken_69 : decode cX10_taken 69 = .ok (.aload_n 0, 1) := by decide +kernel
theorem dX10_taken_70 : decode cX10_taken 70 = .ok (.iload 4, 2) := by decide +kernel
theorem dX10_taken_72 : decode cX10_taken 72 = .ok (.ifCond .eq 9, 3) := by decide +kernel
theorem dX10_taken_75 : decode cX10_taken 75 = .ok (.iload 4, 2) := by decide +kernel
theorem dX10_taken_77 : decode cX10_taken 77 = .ok (.iconst 1, 1) := by decide +kernel
theorem dX10_taken_78 : decode cX10_taken 78 = .ok (.if_icmp .ne 7, 3) := by decide +kernel
theorem dX10_taken_81 : decode cX10_taken 81 = .ok (.iconst 1, 1) := by decide +kernel
theorem dX10_taken_82 : decode cX10_taken 82 = .ok (.goto 4, 3) := by decide +kernel
theorem dX10_taken_85 : decode cX10_taken 85 = .ok (.iconst 0, 1) := by decide +kernel
theorem dX10_taken_86 : decode cX10_taken 86 = .ok (.invokevirtual 72, 3) := by decide +kernel
theorem dX10_taken_89 : decode cX10_taken 89 = .ok (.aload_n 0, 1) := by decide +kernel
theorem dX10_taken_90 : decode cX10_taken 90 = .ok (.getfield 39, 3) := by decide +kernel
theorem dX10_taken_93 : decode cX10_taken 93 = .ok (.iload_n 2, 1) := by decide +kernel
theorem dX10_taken_94 : decode cX10_taken 94 = .ok (.iload_n 3, 1) := by decide +kernel
theorem dX10_taken_95 : decode cX10_taken 95 = .ok (.iload 4, 2) := by decide +kernel
theorem dX10_taken_97 : decode cX10_taken 97 = .ok (.invokevirtual 244, 3) := by decide +kernel
theorem dX10_taken_100 : decode cX10_taken 100 = .ok (.ireturn, 1) := by decide +kernel
theorem dX10_gains_0 : decode cX10_gains 0 = .ok (.iconst 0, 1) := by decide +kernel
theorem dX10_gains_1 : decode cX10_gains 1 = .ok (.istore_n 1, 1) := by decide +kernel
theorem dX10_gains_2 : decode cX10_gains 2 = .ok (.iconst 0, 1) := by decide +kernel
theorem dX10_gains_3 : decode cX10_gains 3 = .ok (.istore_n 2, 1) := by decide +kernel
theorem dX10_gains_4 : decode cX10_gains 4 = .ok (.iload_n 2, 1) := by decide +kernel
theorem dX10_gains_5 : decode cX10_gains 5 = .ok (.aload_n 0, 1) := by decide +kernel
theorem dX10_gains_6 : decode cX10_gains 6 = .ok (.getfield 19, 3) := by decide +kernel
theorem dX10_gains_9 : decode cX10_gains 9 = .ok (.getfield 118, 3) := by decide +kernel
theorem dX10_gains_12 : decode cX10_gains 12 = .ok (.if_icmp .ge 63, 3) := by decide +kernel
theorem dX10_gains_15 : decode cX10_gains 15 = .ok (.aload_n 0, 1) := by decide +kernel
theorem dX10_gains_16 : decode cX10_gains 16 = .ok (.getfield 33, 3) := by decide +kernel
theorem dX10_gains_19 : decode cX10_gains 19 = .ok (.aload_n 0, 1) := by decide +kernel
theorem dX10_gains_20 : decode cX10_gains 20 = .ok (.getfield 19, 3) := by decide +kernel
theorem dX10_gains_23 : decode cX10_gains 23 = .ok (.iload_n 2, 1) := by decide +kernel
theorem dX10_gains_24 : decode cX10_gains 24 = .ok (.invokevirtual 146, 3) := by decide +kernel
theorem dX10_gains_27 : decode cX10_gains 27 = .ok (.aload_n 0, 1) := by decide +kernel
theorem dX10_gains_28 : decode cX10_gains 28 = .ok (.getfield 39, 3) := by decide +kernel
theorem dX10_gains_31 : decode cX10_gains 31 = .ok (.aload_n 0, 1) := by decide +kernel
theorem dX10_gains_32 : decode cX10_gains 32 = .ok (.getfield 19, 3) := by decide +kernel
theorem dX10_gains_35 : decode cX10_gains 35 = .ok (.iload_n 2, 1) := by decide +kernel
theorem dX10_gains_36 : decode cX10_gains 36 = .ok (.invokevirtual 227, 3) := by decide +kernel
theorem dX10_gains_39 : decode cX10_gains 39 = .ok (.iload_n 1, 1) := by decide +kernel
theorem dX10_gains_40 : decode cX10_gains 40 = .ok (.aload_n 0, 1) := by decide +kernel
theorem dX10_gains_41 : decode cX10_gains 41 = .ok (.getfield 39, 3) := by decide +kernel
theorem dX10_gains_44 : decode cX10_gains 44 = .ok (.getfield 228, 3) := by decide +kernel
theorem dX10_gains_47 : decode cX10_gains 47 = .ok (.iconst 1, 1) := by decide +kernel
theorem dX10_gains_48 : decode cX10_gains 48 = .ok (.if_icmp .gt 18, 3) := by decide +kernel
theorem dX10_gains_51 : decode cX10_gains 51 = .ok (.aload_n 0, 1) := by decide +kernel
theorem dX10_gains_52 : decode cX10_gains 52 = .ok (.getfield 33, 3) := by decide +kernel
theorem dX10_gains_55 : decode cX10_gains 55 = .ok (.invokevirtual 150, 3) := by decide +kernel
theorem dX10_gains_58 : decode cX10_gains 58 = .ok (.iconst 1, 1) := by decide +kernel
theorem dX10_gains_59 : decode cX10_gains 59 = .ok (.if_icmp .le 7, 3) := by decide +kernel
theorem dX10_gains_62 : decode cX10_gains 62 = .ok (.iconst 1, 1) := by decide +kernel
theorem dX10_gains_63 : decode cX10_gains 63 = .ok (.goto 4, 3) := by decide +kernel
theorem dX10_gains_66 : decode cX10_gains 66 = .ok (.iconst 0, 1) := by decide +kernel
theorem dX10_gains_67 : decode cX10_gains 67 = .ok (.iadd, 1) := by decide +kernel
theorem dX10_gains_68 : decode cX10_gains 68 = .ok (.istore_n 1, 1) := by decide +kernel
theorem dX10_gains_69 : decode cX10_gains 69 = .ok (.iinc 2 1, 3) := by decide +kernel
theorem dX10_gains_72 : decode cX10_gains 72 = .ok (.goto (-68), 3) := by decide +kernel
theorem dX10_gains_75 : decode cX10_gains 75 = .ok (.iload_n 1, 1) := by decide +kernel
theorem dX10_gains_76 : decode cX10_gains 76 = .ok (.ireturn, 1) := by decide +kernel
theorem dX10_king_0 : decode cX10_king 0 = .ok (.aload_n 0, 1) := by decide +kernel
theorem dX10_king_1 : decode cX10_king 1 = .ok (.aload_n 0, 1) := by decide +kernel
theorem dX10_king_2 : decode cX10_king 2 = .ok (.getfield 19, 3) := by decide +kernel
theorem dX10_king_5 : decode cX10_king 5 = .ok (.iload_n 1, 1) := by decide +kernel
theorem dX10_king_6 : decode cX10_king 6 = .ok (.invokevirtual 83, 3) := by decide +kernel
theorem dX10_king_9 : decode cX10_king 9 = .ok (.invokevirtual 87, 3) := by decide +kernel
theorem dX10_king_12 : decode cX10_king 12 = .ok (.aload_n 0, 1) := by decide +kernel
theorem dX10_king_13 : decode cX10_king 13 = .ok (.iload_n 2, 1) := by decide +kernel
theorem dX10_king_14 : decode cX10_king 14 = .ok (.ifCond .lt 18, 3) := by decide +kernel
theorem dX10_king_17 : decode cX10_king 17 = .ok (.iload_n 2, 1) := by decide +kernel
theorem dX10_king_18 : decode cX10_king 18 = .ok (.aload_n 0, 1) := by decide +kernel
theorem dX10_king_19 : decode cX10_king 19 = .ok (.getfield 19, 3) := by decide +kernel
theorem dX10_king_22 : decode cX10_king 22 = .ok (.invokevirtual 79, 3) := by decide +kernel
theorem dX10_king_25 : decode cX10_king 25 = .ok (.if_icmp .gt 7, 3) := by decide +kernel
theorem dX10_king_28 : decode cX10_king 28 = .ok (.iconst 1, 1) := by decide +kernel
theorem dX10_king_29 : decode cX10_king 29 = .ok (.goto 4, 3) := by decide +kernel
theorem dX10_king_32 : decode cX10_king 32 = .ok (.iconst 0, 1) := by decide +kernel
theorem dX10_king_33 : decode cX10_king 33 = .ok (.invokevirtual 72, 3) := by decide +kernel
theorem dX10_king_36 : decode cX10_king 36 = .ok (.aload_n 0, 1) := by decide +kernel
theorem dX10_king_37 : decode cX10_king 37 = .ok (.getfield 46, 3) := by decide +kernel
theorem dX10_king_40 : decode cX10_king 40 = .ok (.aload_n 0, 1) := by decide +kernel
theorem dX10_king_41 : decode cX10_king 41 = .ok (.getfield 19, 3) := by decide +kernel
theorem dX10_king_44 : decode cX10_king 44 = .ok (.iload_n 2, 1) := by decide +kernel
theorem dX10_king_45 : decode cX10_king 45 = .ok (.invokevirtual 247, 3) := by decide +kernel
theorem dX10_king_48 : decode cX10_king 48 = .ok (.aload_n 0, 1) := by decide +kernel
theorem dX10_king_49 : decode cX10_king 49 = .ok (.getfield 46, 3) := by decide +kernel
theorem dX10_king_52 : decode cX10_king 52 = .ok (.getfield 248, 3) := by decide +kernel
theorem dX10_king_55 : decode cX10_king 55 = .ok (.iload_n 1, 1) := by decide +kernel
theorem dX10_king_56 : decode cX10_king 56 = .ok (.iaload, 1) := by decide +kernel
theorem dX10_king_57 : decode cX10_king 57 = .ok (.ireturn, 1) := by decide +kernel
theorem dX10_kings_0 : decode cX10_kings 0 = .ok (.aload_n 0, 1) := by decide +kernel
theorem dX10_kings_1 : decode cX10_kings 1 = .ok (.iload_n 1, 1) := by decide +kernel
theorem dX10_kings_2 : decode cX10_kings 2 = .ok (.ifCond .lt 12, 3) := by decide +kernel
theorem dX10_kings_5 : decode cX10_kings 5 = .ok (.iload_n 1, 1) := by decide +kernel
theorem dX10_kings_6 : decode cX10_kings 6 = .ok (.iconst 3, 1) := by decide +kernel
theorem dX10_kings_7 : decode cX10_kings 7 = .ok (.if_icmp .gt 7, 3) := by decide +kernel
theorem dX10_kings_10 : decode cX10_kings 10 = .ok (.iconst 1, 1) := by decide +kernel
theorem dX10_kings_11 : decode cX10_kings 11 = .ok (.goto 4, 3) := by decide +kernel
theorem dX10_kings_14 : decode cX10_kings 14 = .ok (.iconst 0, 1) := by decide +kernel
theorem dX10_kings_15 : decode cX10_kings 15 = .ok (.invokevirtual 72, 3) := by decide +kernel
theorem dX10_kings_18 : decode cX10_kings 18 = .ok (.aload_n 0, 1) := by decide +kernel
theorem dX10_kings_19 : decode cX10_kings 19 = .ok (.getfield 46, 3) := by decide +kernel
theorem dX10_kings_22 : decode cX10_kings 22 = .ok (.aload_n 0, 1) := by decide +kernel
theorem dX10_kings_23 : decode cX10_kings 23 = .ok (.getfield 19, 3) := by decide +kernel
theorem dX10_kings_26 : decode cX10_kings 26 = .ok (.aload_n 0, 1) := by decide +kernel
theorem dX10_kings_27 : decode cX10_kings 27 = .ok (.getfield 19, 3) := by decide +kernel
theorem dX10_kings_30 : decode cX10_kings 30 = .ok (.invokevirtual 79, 3) := by decide +kernel
theorem dX10_kings_33 : decode cX10_kings 33 = .ok (.invokevirtual 247, 3) := by decide +kernel
theorem dX10_kings_36 : decode cX10_kings 36 = .ok (.iload_n 1, 1) := by decide +kernel
theorem dX10_kings_37 : decode cX10_kings 37 = .ok (.tableswitch 65 0 2 #[27, 42, 57], 27) := by decide +kernel
theorem dX10_kings_64 : decode cX10_kings 64 = .ok (.aload_n 0, 1) := by decide +kernel
theorem dX10_kings_65 : decode cX10_kings 65 = .ok (.getfield 46, 3) := by decide +kernel
theorem dX10_kings_68 : decode cX10_kings 68 = .ok (.aload_n 0, 1) := by decide +kernel
theorem dX10_kings_69 : decode cX10_kings 69 = .ok (.getfield 19, 3) := by decide +kernel
theorem dX10_kings_72 : decode cX10_kings 72 = .ok (.invokevirtual 79, 3) := by decide +kernel
theorem dX10_kings_75 : decode cX10_kings 75 = .ok (.invokevirtual 251, 3) := by decide +kernel
theorem dX10_kings_78 : decode cX10_kings 78 = .ok (.ireturn, 1) := by decide +kernel
theorem dX10_kings_79 : decode cX10_kings 79 = .ok (.aload_n 0, 1) := by decide +kernel
theorem dX10_kings_80 : decode cX10_kings 80 = .ok (.getfield 46, 3) := by decide +kernel
theorem dX10_kings_83 : decode cX10_kings 83 = .ok (.aload_n 0, 1) := by decide +kernel
theorem dX10_kings_84 : decode cX10_kings 84 = .ok (.getfield 19, 3) := by decide +kernel
theorem dX10_kings_87 : decode cX10_kings 87 = .ok (.invokevirtual 79, 3) := by decide +kernel
theorem dX10_kings_90 : decode cX10_kings 90 = .ok (.invokevirtual 254, 3) := by decide +kernel
theorem dX10_kings_93 : decode cX10_kings 93 = .ok (.ireturn, 1) := by decide +kernel
theorem dX10_kings_94 : decode cX10_kings 94 = .ok (.aload_n 0, 1) := by decide +kernel
theorem dX10_kings_95 : decode cX10_kings 95 = .ok (.getfield 46, 3) := by decide +kernel
theorem dX10_kings_98 : decode cX10_kings 98 = .ok (.getfield 257, 3) := by decide +kernel
theorem dX10_kings_101 : decode cX10_kings 101 = .ok (.ireturn, 1) := by decide +kernel
theorem dX10_kings_102 : decode cX10_kings 102 = .ok (.aload_n 0, 1) := by decide +kernel
theorem dX10_kings_103 : decode cX10_kings 103 = .ok (.getfield 46, 3) := by decide +kernel
theorem dX10_kings_106 : decode cX10_kings 106 = .ok (.getfield 258, 3) := by decide +kernel
theorem dX10_kings_109 : decode cX10_kings 109 = .ok (.ireturn, 1) := by decide +kernel
theorem dX10_echoes_0 : decode cX10_echoes 0 = .ok (.aload_n 0, 1) := by decide +kernel
theorem dX10_echoes_1 : decode cX10_echoes 1 = .ok (.aload_n 0, 1) := by decide +kernel
theorem dX10_echoes_2 : decode cX10_echoes 2 = .ok (.getfield 19, 3) := by decide +kernel
theorem dX10_echoes_5 : decode cX10_echoes 5 = .ok (.iload_n 1, 1) := by decide +kernel
theorem dX10_echoes_6 : decode cX10_echoes 6 = .ok (.invokevirtual 83, 3) := by decide +kernel
theorem dX10_echoes_9 : decode cX10_echoes 9 = .ok (.invokevirtual 87, 3) := by decide +kernel
theorem dX10_echoes_12 : decode cX10_echoes 12 = .ok (.aload_n 0, 1) := by decide +kernel
theorem dX10_echoes_13 : decode cX10_echoes 13 = .ok (.iload_n 2, 1) := by decide +kernel
theorem dX10_echoes_14 : decode cX10_echoes 14 = .ok (.ifCond .lt 12, 3) := by decide +kernel
theorem dX10_echoes_17 : decode cX10_echoes 17 = .ok (.iload_n 2, 1) := by decide +kernel
theorem dX10_echoes_18 : decode cX10_echoes 18 = .ok (.iconst 4, 1) := by decide +kernel
theorem dX10_echoes_19 : decode cX10_echoes 19 = .ok (.if_icmp .gt 7, 3) := by decide +kernel
theorem dX10_echoes_22 : decode cX10_echoes 22 = .ok (.iconst 1, 1) := by decide +kernel
theorem dX10_echoes_23 : decode cX10_echoes 23 = .ok (.goto 4, 3) := by decide +kernel
theorem dX10_echoes_26 : decode cX10_echoes 26 = .ok (.iconst 0, 1) := by decide +kernel
theorem dX10_echoes_27 : decode cX10_echoes 27 = .ok (.invokevirtual 72, 3) := by decide +kernel
theorem dX10_echoes_30 : decode cX10_echoes 30 = .ok (.aload_n 0, 1) := by decide +kernel
theorem dX10_echoes_31 : decode cX10_echoes 31 = .ok (.getfield 53, 3) := by decide +kernel
theorem dX10_echoes_34 : decode cX10_echoes 34 = .ok (.aload_n 0, 1) := by decide +kernel
theorem dX10_echoes_35 : decode cX10_echoes 35 = .ok (.getfield 19, 3) := by decide +kernel
theorem dX10_echoes_38 : decode cX10_echoes 38 = .ok (.iload_n 1, 1) := by decide +kernel
theorem dX10_echoes_39 : decode cX10_echoes 39 = .ok (.invokevirtual 261, 3) := by decide +kernel
theorem dX10_echoes_42 : decode cX10_echoes 42 = .ok (.iload_n 2, 1) := by decide +kernel
theorem dX10_echoes_43 : decode cX10_echoes 43 = .ok (.tableswitch 73 0 3 #[29, 41, 53, 65], 29) := by decide +kernel
theorem dX10_echoes_72 : decode cX10_echoes 72 = .ok (.aload_n 0, 1) := by decide +kernel
theorem dX10_echoes_73 : decode cX10_echoes 73 = .ok (.getfield 53, 3) := by decide +kernel
theorem dX10_echoes_76 : decode cX10_echoes 76 = .ok (.aload_n 0, 1) := by decide +kernel
theorem dX10_echoes_77 : decode cX10_echoes 77 = .ok (.getfield 19, 3) := by decide +kernel
theorem dX10_echoes_80 : decode cX10_echoes 80 = .ok (.invokevirtual 262, 3) := by decide +kernel
theorem dX10_echoes_83 : decode cX10_echoes 83 = .ok (.ireturn, 1) := by decide +kernel
theorem dX10_echoes_84 : decode cX10_echoes 84 = .ok (.aload_n 0, 1) := by decide +kernel
theorem dX10_echoes_85 : decode cX10_echoes 85 = .ok (.getfield 53, 3) := by decide +kernel
theorem dX10_echoes_88 : decode cX10_echoes 88 = .ok (.aload_n 0, 1) := by decide +kernel
theorem dX10_echoes_89 : decode cX10_echoes 89 = .ok (.getfield 19, 3) := by decide +kernel
theorem dX10_echoes_92 : decode cX10_echoes 92 = .ok (.invokevirtual 265, 3) := by decide +kernel
theorem dX10_echoes_95 : decode cX10_echoes 95 = .ok (.ireturn, 1) := by decide +kernel
theorem dX10_echoes_96 : decode cX10_echoes 96 = .ok (.aload_n 0, 1) := by decide +kernel
theorem dX10_echoes_97 : decode cX10_echoes 97 = .ok (.getfield 53, 3) := by decide +kernel
theorem dX10_echoes_100 : decode cX10_echoes 100 = .ok (.aload_n 0, 1) := by decide +kernel
theorem dX10_echoes_101 : decode cX10_echoes 101 = .ok (.getfield 19, 3) := by decide +kernel
theorem dX10_echoes_104 : decode cX10_echoes 104 = .ok (.invokevirtual 268, 3) := by decide +kernel
theorem dX10_echoes_107 : decode cX10_echoes 107 = .ok (.ireturn, 1) := by decide +kernel
theorem dX10_echoes_108 : decode cX10_echoes 108 = .ok (.aload_n 0, 1) := by decide +kernel
theorem dX10_echoes_109 : decode cX10_echoes 109 = .ok (.getfield 53, 3) := by decide +kernel
theorem dX10_echoes_112 : decode cX10_echoes 112 = .ok (.getfield 271, 3) := by decide +kernel
theorem dX10_echoes_115 : decode cX10_echoes 115 = .ok (.ireturn, 1) := by decide +kernel
theorem dX10_echoes_116 : decode cX10_echoes 116 = .ok (.aload_n 0, 1) := by decide +kernel
theorem dX10_echoes_117 : decode cX10_echoes 117 = .ok (.getfield 53, 3) := by decide +kernel
theorem dX10_echoes_120 : decode cX10_echoes 120 = .ok (.getfield 272, 3) := by decide +kernel
theorem dX10_echoes_123 : decode cX10_echoes 123 = .ok (.ireturn, 1) := by decide +kernel
theorem dX10_echoesOf_0 : decode cX10_echoesOf 0 = .ok (.aload_n 0, 1) := by decide +kernel
theorem dX10_echoesOf_1 : decode cX10_echoesOf 1 = .ok (.aload_n 0, 1) := by decide +kernel
theorem dX10_echoesOf_2 : decode cX10_echoesOf 2 = .ok (.getfield 19, 3) := by decide +kernel
theorem dX10_echoesOf_5 : decode cX10_echoesOf 5 = .ok (.iload_n 1, 1) := by decide +kernel
theorem dX10_echoesOf_6 : decode cX10_echoesOf 6 = .ok (.invokevirtual 83, 3) := by decide +kernel
theorem dX10_echoesOf_9 : decode cX10_echoesOf 9 = .ok (.ifCond .eq 18, 3) := by decide +kernel
theorem dX10_echoesOf_12 : decode cX10_echoesOf 12 = .ok (.aload_n 0, 1) := by decide +kernel
theorem dX10_echoesOf_13 : decode cX10_echoesOf 13 = .ok (.getfield 19, 3) := by decide +kernel
theorem dX10_echoesOf_16 : decode cX10_echoesOf 16 = .ok (.iload_n 2, 1) := by decide +kernel
theorem dX10_echoesOf_17 : decode cX10_echoesOf 17 = .ok (.invokevirtual 83, 3) := by decide +kernel
theorem dX10_echoesOf_20 : decode cX10_echoesOf 20 = .ok (.ifCond .eq 7, 3) := by decide +kernel
theorem dX10_echoesOf_23 : decode cX10_echoesOf 23 = .ok (.iconst 1, 1) := by decide +kernel
theorem dX10_echoesOf_24 : decode cX10_echoesOf 24 = .ok (.goto 4, 3) := by decide +kernel
theorem dX10_echoesOf_27 : decode cX10_echoesOf 27 = .ok (.iconst 0, 1) := by decide +kernel
theorem dX10_echoesOf_28 : decode cX10_echoesOf 28 = .ok (.invokevirtual 87, 3) := by decide +kernel
theorem dX10_echoesOf_31 : decode cX10_echoesOf 31 = .ok (.aload_n 0, 1) := by decide +kernel
theorem dX10_echoesOf_32 : decode cX10_echoesOf 32 = .ok (.iload_n 3, 1) := by decide +kernel
theorem dX10_echoesOf_33 : decode cX10_echoesOf 33 = .ok (.ifCond .lt 12, 3) := by decide +kernel
theorem dX10_echoesOf_36 : decode cX10_echoesOf 36 = .ok (.iload_n 3, 1) := by decide +kernel
theorem dX10_echoesOf_37 : decode cX10_echoesOf 37 = .ok (.iconst 4, 1) := by decide +kernel
theorem dX10_echoesOf_38 : decode cX10_echoesOf 38 = .ok (.if_icmp .gt 7, 3) := by decide +kernel
theorem dX10_echoesOf_41 : decode cX10_echoesOf 41 = .ok (.iconst 1, 1) := by decide +kernel
theorem dX10_echoesOf_42 : decode cX10_echoesOf 42 = .ok (.goto 4, 3) := by decide +kernel
theorem dX10_echoesOf_45 : decode cX10_echoesOf 45 = .ok (.iconst 0, 1) := by decide +kernel
theorem dX10_echoesOf_46 : decode cX10_echoesOf 46 = .ok (.invokevirtual 72, 3) := by decide +kernel
theorem dX10_echoesOf_49 : decode cX10_echoesOf 49 = .ok (.aload_n 0, 1) := by decide +kernel
theorem dX10_echoesOf_50 : decode cX10_echoesOf 50 = .ok (.getfield 53, 3) := by decide +kernel
theorem dX10_echoesOf_53 : decode cX10_echoesOf 53 = .ok (.aload_n 0, 1) := by decide +kernel
theorem dX10_echoesOf_54 : decode cX10_echoesOf 54 = .ok (.getfield 19, 3) := by decide +kernel
theorem dX10_echoesOf_57 : decode cX10_echoesOf 57 = .ok (.iload_n 1, 1) := by decide +kernel
theorem dX10_echoesOf_58 : decode cX10_echoesOf 58 = .ok (.invokevirtual 261, 3) := by decide +kernel
theorem dX10_echoesOf_61 : decode cX10_echoesOf 61 = .ok (.iload_n 3, 1) := by decide +kernel
theorem dX10_echoesOf_62 : decode cX10_echoesOf 62 = .ok (.tableswitch 73 0 3 #[30, 40, 50, 60], 30) := by decide +kernel
theorem dX10_echoesOf_92 : decode cX10_echoesOf 92 = .ok (.aload_n 0, 1) := by decide +kernel
theorem dX10_echoesOf_93 : decode cX10_echoesOf 93 = .ok (.getfield 53, 3) := by decide +kernel
theorem dX10_echoesOf_96 : decode cX10_echoesOf 96 = .ok (.getfield 273, 3) := by decide +kernel
theorem dX10_echoesOf_99 : decode cX10_echoesOf 99 = .ok (.iload_n 2, 1) := by decide +kernel
theorem dX10_echoesOf_100 : decode cX10_echoesOf 100 = .ok (.iaload, 1) := by decide +kernel
theorem dX10_echoesOf_101 : decode cX10_echoesOf 101 = .ok (.ireturn, 1) := by decide +kernel
theorem dX10_echoesOf_102 : decode cX10_echoesOf 102 = .ok (.aload_n 0, 1) := by decide +kernel
theorem dX10_echoesOf_103 : decode cX10_echoesOf 103 = .ok (.getfield 53, 3) := by decide +kernel
theorem dX10_echoesOf_106 : decode cX10_echoesOf 106 = .ok (.getfield 276, 3) := by decide +kernel
theorem dX10_echoesOf_109 : decode cX10_echoesOf 109 = .ok (.iload_n 2, 1) := by decide +kernel
theorem dX10_echoesOf_110 : decode cX10_echoesOf 110 = .ok (.iaload, 1) := by decide +kernel
theorem dX10_echoesOf_111 : decode cX10_echoesOf 111 = .ok (.ireturn, 1) := by decide +kernel
theorem dX10_echoesOf_112 : decode cX10_echoesOf 112 = .ok (.aload_n 0, 1) := by decide +kernel
theorem dX10_echoesOf_113 : decode cX10_echoesOf 113 = .ok (.getfield 53, 3) := by decide +kernel
theorem dX10_echoesOf_116 : decode cX10_echoesOf 116 = .ok (.getfield 279, 3) := by decide +kernel
theorem dX10_echoesOf_119 : decode cX10_echoesOf 119 = .ok (.iload_n 2, 1) := by decide +kernel
theorem dX10_echoesOf_120 : decode cX10_echoesOf 120 = .ok (.iaload, 1) := by decide +kernel
theorem dX10_echoesOf_121 : decode cX10_echoesOf 121 = .ok (.ireturn, 1) := by decide +kernel
theorem dX10_echoesOf_122 : decode cX10_echoesOf 122 = .ok (.aload_n 0, 1) := by decide +kernel
theorem dX10_echoesOf_123 : decode cX10_echoesOf 123 = .ok (.getfield 53, 3) := by decide +kernel
theorem dX10_echoesOf_126 : decode cX10_echoesOf 126 = .ok (.getfield 282, 3) := by decide +kernel
theorem dX10_echoesOf_129 : decode cX10_echoesOf 129 = .ok (.iload_n 2, 1) := by decide +kernel
theorem dX10_echoesOf_130 : decode cX10_echoesOf 130 = .ok (.iaload, 1) := by decide +kernel
theorem dX10_echoesOf_131 : decode cX10_echoesOf 131 = .ok (.invokestatic 137, 3) := by decide +kernel
theorem dX10_echoesOf_134 : decode cX10_echoesOf 134 = .ok (.ireturn, 1) := by decide +kernel
theorem dX10_echoesOf_135 : decode cX10_echoesOf 135 = .ok (.aload_n 0, 1) := by decide +kernel
theorem dX10_echoesOf_136 : decode cX10_echoesOf 136 = .ok (.getfield 53, 3) := by decide +kernel
theorem dX10_echoesOf_139 : decode cX10_echoesOf 139 = .ok (.getfield 285, 3) := by decide +kernel
theorem dX10_echoesOf_142 : decode cX10_echoesOf 142 = .ok (.iload_n 2, 1) := by decide +kernel
theorem dX10_echoesOf_143 : decode cX10_echoesOf 143 = .ok (.iaload, 1) := by decide +kernel
theorem dX10_echoesOf_144 : decode cX10_echoesOf 144 = .ok (.invokestatic 137, 3) := by decide +kernel
theorem dX10_echoesOf_147 : decode cX10_echoesOf 147 = .ok (.ireturn, 1) := by decide +kernel
theorem dX10_messages_0 : decode cX10_messages 0 = .ok (.aload_n 0, 1) := by decide +kernel
theorem dX10_messages_1 : decode cX10_messages 1 = .ok (.iload_n 1, 1) := by decide +kernel
theorem dX10_messages_2 : decode cX10_messages 2 = .ok (.iconst 3, 1) := by decide +kernel
theorem dX10_messages_3 : decode cX10_messages 3 = .ok (.if_icmp .lt 23, 3) := by decide +kernel
theorem dX10_messages_6 : decode cX10_messages 6 = .ok (.iload_n 1, 1) := by decide +kernel
theorem dX10_messages_7 : decode cX10_messages 7 = .ok (.bipush 7, 2) := by decide +kernel
theorem dX10_messages_9 : decode cX10_messages 9 = .ok (.if_icmp .gt 17, 3) := by decide +kernel
theorem dX10_messages_12 : decode cX10_messages 12 = .ok (.iload_n 2, 1) := by decide +kernel
theorem dX10_messages_13 : decode cX10_messages 13 = .ok (.iconst 1, 1) := by decide +kernel
theorem dX10_messages_14 : decode cX10_messages 14 = .ok (.if_icmp .lt 12, 3) := by decide +kernel
theorem dX10_messages_17 : decode cX10_messages 17 = .ok (.iload_n 2, 1) := by decide +kernel
theorem dX10_messages_18 : decode cX10_messages 18 = .ok (.iconst 3, 1) := by decide +kernel
theorem dX10_messages_19 : decode cX10_messages 19 = .ok (.if_icmp .gt 7, 3) := by decide +kernel
theorem dX10_messages_22 : decode cX10_messages 22 = .ok (.iconst 1, 1) := by decide +kernel
theorem dX10_messages_23 : decode cX10_messages 23 = .ok (.goto 4, 3) := by decide +kernel
theorem dX10_messages_26 : decode cX10_messages 26 = .ok (.iconst 0, 1) := by decide +kernel
theorem dX10_messages_27 : decode cX10_messages 27 = .ok (.invokevirtual 72, 3) := by decide +kernel
theorem dX10_messages_30 : decode cX10_messages 30 = .ok (.iload_n 1, 1) := by decide +kernel
theorem dX10_messages_31 : decode cX10_messages 31 = .ok (.iload_n 2, 1) := by decide +kernel
theorem dX10_messages_32 : decode cX10_messages 32 = .ok (.invokestatic 288, 3) := by decide +kernel
theorem dX10_messages_35 : decode cX10_messages 35 = .ok (.ireturn, 1) := by decide +kernel
theorem dX10_nearer_0 : decode cX10_nearer 0 = .ok (.aload_n 0, 1) := by decide +kernel
theorem dX10_nearer_1 : decode cX10_nearer 1 = .ok (.aload_n 0, 1) := by decide +kernel
theorem dX10_nearer_2 : decode cX10_nearer 2 = .ok (.getfield 19, 3) := by decide +kernel
theorem dX10_nearer_5 : decode cX10_nearer 5 = .ok (.iload_n 3, 1) := by decide +kernel
theorem dX10_nearer_6 : decode cX10_nearer 6 = .ok (.invokevirtual 83, 3) := by decide +kernel
theorem dX10_nearer_9 : decode cX10_nearer 9 = .ok (.invokevirtual 87, 3) := by decide +kernel
theorem dX10_nearer_12 : decode cX10_nearer 12 = .ok (.aload_n 0, 1) := by decide +kernel
theorem dX10_nearer_13 : decode cX10_nearer 13 = .ok (.iload_n 1, 1) := by decide +kernel
theorem dX10_nearer_14 : decode cX10_nearer 14 = .ok (.iload_n 2, 1) := by decide +kernel
theorem dX10_nearer_15 : decode cX10_nearer 15 = .ok (.invokestatic 291, 3) := by decide +kernel
theorem dX10_nearer_18 : decode cX10_nearer 18 = .ok (.invokevirtual 72, 3) := by decide +kernel
theorem dX10_nearer_21 : decode cX10_nearer 21 = .ok (.aload_n 0, 1) := by decide +kernel
theorem dX10_nearer_22 : decode cX10_nearer 22 = .ok (.getfield 60, 3) := by decide +kernel
theorem dX10_nearer_25 : decode cX10_nearer 25 = .ok (.aload_n 0, 1) := by decide +kernel
theorem dX10_nearer_26 : decode cX10_nearer 26 = .ok (.getfield 19, 3) := by decide +kernel
theorem dX10_nearer_29 : decode cX10_nearer 29 = .ok (.iload_n 1, 1) := by decide +kernel
theorem dX10_nearer_30 : decode cX10_nearer 30 = .ok (.iload_n 2, 1) := by decide +kernel
theorem dX10_nearer_31 : decode cX10_nearer 31 = .ok (.invokevirtual 294, 3) := by decide +kernel
theorem dX10_nearer_34 : decode cX10_nearer 34 = .ok (.aload_n 0, 1) := by decide +kernel
theorem dX10_nearer_35 : decode cX10_nearer 35 = .ok (.getfield 60, 3) := by decide +kernel
theorem dX10_nearer_38 : decode cX10_nearer 38 = .ok (.getfield 297, 3) := by decide +kernel
theorem dX10_nearer_41 : decode cX10_nearer 41 = .ok (.iload_n 3, 1) := by decide +kernel
theorem dX10_nearer_42 : decode cX10_nearer 42 = .ok (.faload, 1) := by decide +kernel
theorem dX10_nearer_43 : decode cX10_nearer 43 = .ok (.invokestatic 97, 3) := by decide +kernel
theorem dX10_nearer_46 : decode cX10_nearer 46 = .ok (.ireturn, 1) := by decide +kernel
theorem dX10_spread_0 : decode cX10_spread 0 = .ok (.aload_n 0, 1) := by decide +kernel
theorem dX10_spread_1 : decode cX10_spread 1 = .ok (.iload_n 1, 1) := by decide +kernel
theorem dX10_spread_2 : decode cX10_spread 2 = .ok (.iload_n 2, 1) := by decide +kernel
theorem dX10_spread_3 : decode cX10_spread 3 = .ok (.invokestatic 291, 3) := by decide +kernel
theorem dX10_spread_6 : decode cX10_spread 6 = .ok (.invokevirtual 72, 3) := by decide +kernel
theorem dX10_spread_9 : decode cX10_spread 9 = .ok (.aload_n 0, 1) := by decide +kernel
theorem dX10_spread_10 : decode cX10_spread 10 = .ok (.getfield 60, 3) := by decide +kernel
theorem dX10_spread_13 : decode cX10_spread 13 = .ok (.aload_n 0, 1) := by decide +kernel
theorem dX10_spread_14 : decode cX10_spread 14 = .ok (.getfield 19, 3) := by decide +kernel
theorem dX10_spread_17 : decode cX10_spread 17 = .ok (.iload_n 1, 1) := by decide +kernel
theorem dX10_spread_18 : decode cX10_spread 18 = .ok (.iload_n 2, 1) := by decide +kernel
theorem dX10_spread_19 : decode cX10_spread 19 = .ok (.invokevirtual 294, 3) := by decide +kernel
theorem dX10_spread_22 : decode cX10_spread 22 = .ok (.aload_n 0, 1) := by decide +kernel
theorem dX10_spread_23 : decode cX10_spread 23 = .ok (.getfield 60, 3) := by decide +kernel
theorem dX10_spread_26 : decode cX10_spread 26 = .ok (.aload_n 0, 1) := by decide +kernel
theorem dX10_spread_27 : decode cX10_spread 27 = .ok (.getfield 19, 3) := by decide +kernel
theorem dX10_spread_30 : decode cX10_spread 30 = .ok (.invokevirtual 300, 3) := by decide +kernel
theorem dX10_spread_33 : decode cX10_spread 33 = .ok (.invokestatic 97, 3) := by decide +kernel
theorem dX10_spread_36 : decode cX10_spread 36 = .ok (.ireturn, 1) := by decide +kernel
theorem dX10_steps_0 : decode cX10_steps 0 = .ok (.aload_n 0, 1) := by decide +kernel
theorem dX10_steps_1 : decode cX10_steps 1 = .ok (.iload_n 1, 1) := by decide +kernel
theorem dX10_steps_2 : decode cX10_steps 2 = .ok (.iload_n 2, 1) := by decide +kernel
theorem dX10_steps_3 : decode cX10_steps 3 = .ok (.invokestatic 90, 3) := by decide +kernel
theorem dX10_steps_6 : decode cX10_steps 6 = .ok (.ifCond .eq 19, 3) := by decide +kernel
theorem dX10_steps_9 : decode cX10_steps 9 = .ok (.iload_n 1, 1) := by decide +kernel
theorem dX10_steps_10 : decode cX10_steps 10 = .ok (.ifCond .lt 15, 3) := by decide +kernel
theorem dX10_steps_13 : decode cX10_steps 13 = .ok (.iconst 0, 1) := by decide +kernel
theorem dX10_steps_14 : decode cX10_steps 14 = .ok (.iload_n 3, 1) := by decide +kernel
theorem dX10_steps_15 : decode cX10_steps 15 = .ok (.invokestatic 291, 3) := by decide +kernel
theorem dX10_steps_18 : decode cX10_steps 18 = .ok (.ifCond .eq 7, 3) := by decide +kernel
theorem dX10_steps_21 : decode cX10_steps 21 = .ok (.iconst 1, 1) := by decide +kernel
theorem dX10_steps_22 : decode cX10_steps 22 = .ok (.goto 4, 3) := by decide +kernel
theorem dX10_steps_25 : decode cX10_steps 25 = .ok (.iconst 0, 1) := by decide +kernel
theorem dX10_steps_26 : decode cX10_steps 26 = .ok (.invokevirtual 72, 3) := by decide +kernel
theorem dX10_steps_29 : decode cX10_steps 29 = .ok (.aload_n 0, 1) := by decide +kernel
theorem dX10_steps_30 : decode cX10_steps 30 = .ok (.getfield 60, 3) := by decide +kernel
theorem dX10_steps_33 : decode cX10_steps 33 = .ok (.aload_n 0, 1) := by decide +kernel
theorem dX10_steps_34 : decode cX10_steps 34 = .ok (.getfield 19, 3) := by decide +kernel
theorem dX10_steps_37 : decode cX10_steps 37 = .ok (.iload_n 1, 1) := by decide +kernel
theorem dX10_steps_38 : decode cX10_steps 38 = .ok (.i2f, 1) := by decide +kernel
theorem dX10_steps_39 : decode cX10_steps 39 = .ok (.iload_n 2, 1) := by decide +kernel
theorem dX10_steps_40 : decode cX10_steps 40 = .ok (.i2f, 1) := by decide +kernel
theorem dX10_steps_41 : decode cX10_steps 41 = .ok (.fdiv, 1) := by decide +kernel
theorem dX10_steps_42 : decode cX10_steps 42 = .ok (.iload_n 3, 1) := by decide +kernel
theorem dX10_steps_43 : decode cX10_steps 43 = .ok (.invokevirtual 304, 3) := by decide +kernel
theorem dX10_steps_46 : decode cX10_steps 46 = .ok (.ireturn, 1) := by decide +kernel
theorem dX10_total_0 : decode cX10_total 0 = .ok (.aload_n 0, 1) := by decide +kernel
theorem dX10_total_1 : decode cX10_total 1 = .ok (.iload_n 1, 1) := by decide +kernel
theorem dX10_total_2 : decode cX10_total 2 = .ok (.iload_n 2, 1) := by decide +kernel
theorem dX10_total_3 : decode cX10_total 3 = .ok (.invokestatic 291, 3) := by decide +kernel
theorem dX10_total_6 : decode cX10_total 6 = .ok (.invokevirtual 72, 3) := by decide +kernel
theorem dX10_total_9 : decode cX10_total 9 = .ok (.aload_n 0, 1) := by decide +kernel
theorem dX10_total_10 : decode cX10_total 10 = .ok (.getfield 60, 3) := by decide +kernel
theorem dX10_total_13 : decode cX10_total 13 = .ok (.aload_n 0, 1) := by decide +kernel
theorem dX10_total_14 : decode cX10_total 14 = .ok (.getfield 19, 3) := by decide +kernel
theorem dX10_total_17 : decode cX10_total 17 = .ok (.iload_n 1, 1) := by decide +kernel
theorem dX10_total_18 : decode cX10_total 18 = .ok (.iload_n 2, 1) := by decide +kernel
theorem dX10_total_19 : decode cX10_total 19 = .ok (.invokevirtual 294, 3) := by decide +kernel
theorem dX10_total_22 : decode cX10_total 22 = .ok (.aload_n 0, 1) := by decide +kernel
theorem dX10_total_23 : decode cX10_total 23 = .ok (.getfield 60, 3) := by decide +kernel
theorem dX10_total_26 : decode cX10_total 26 = .ok (.aload_n 0, 1) := by decide +kernel
theorem dX10_total_27 : decode cX10_total 27 = .ok (.getfield 19, 3) := by decide +kernel
theorem dX10_total_30 : decode cX10_total 30 = .ok (.invokevirtual 308, 3) := by decide +kernel
theorem dX10_total_33 : decode cX10_total 33 = .ok (.invokestatic 312, 3) := by decide +kernel
theorem dX10_total_36 : decode cX10_total 36 = .ok (.lreturn, 1) := by decide +kernel
theorem dX10_attacks_0 : decode cX10_attacks 0 = .ok (.aload_n 0, 1) := by decide +kernel
theorem dX10_attacks_1 : decode cX10_attacks 1 = .ok (.iload_n 1, 1) := by decide +kernel
theorem dX10_attacks_2 : decode cX10_attacks 2 = .ok (.iload_n 2, 1) := by decide +kernel
theorem dX10_attacks_3 : decode cX10_attacks 3 = .ok (.iload_n 3, 1) := by decide +kernel
theorem dX10_attacks_4 : decode cX10_attacks 4 = .ok (.invokevirtual 316, 3) := by decide +kernel
theorem dX10_attacks_7 : decode cX10_attacks 7 = .ok (.aload_n 0, 1) := by decide +kernel
theorem dX10_attacks_8 : decode cX10_attacks 8 = .ok (.iload 4, 2) := by decide +kernel
theorem dX10_attacks_10 : decode cX10_attacks 10 = .ok (.ifCond .lt 13, 3) := by decide +kernel
theorem dX10_attacks_13 : decode cX10_attacks 13 = .ok (.iload 4, 2) := by decide +kernel
theorem dX10_attacks_15 : decode cX10_attacks 15 = .ok (.iconst 3, 1) := by decide +kernel
theorem dX10_attacks_16 : decode cX10_attacks 16 = .ok (.if_icmp .gt 7, 3) := by decide +kernel
theorem dX10_attacks_19 : decode cX10_attacks 19 = .ok (.iconst 1, 1) := by decide +kernel
theorem dX10_attacks_20 : decode cX10_attacks 20 = .ok (.goto 4, 3) := by decide +kernel
theorem dX10_attacks_23 : decode cX10_attacks 23 = .ok (.iconst 0, 1) := by decide +kernel
theorem dX10_attacks_24 : decode cX10_attacks 24 = .ok (.invokevirtual 72, 3) := by decide +kernel
theorem dX10_attacks_27 : decode cX10_attacks 27 = .ok (.iload_n 1, 1) := by decide +kernel
theorem dX10_attacks_28 : decode cX10_attacks 28 = .ok (.iload_n 2, 1) := by decide +kernel
theorem dX10_attacks_29 : decode cX10_attacks 29 = .ok (.iload_n 3, 1) := by decide +kernel
theorem dX10_attacks_30 : decode cX10_attacks 30 = .ok (.invokestatic 320, 3) := by decide +kernel
theorem dX10_attacks_33 : decode cX10_attacks 33 = .ok (.istore 5, 2) := by decide +kernel
theorem dX10_attacks_35 : decode cX10_attacks 35 = .ok (.iconst 0, 1) := by decide +kernel
theorem dX10_attacks_36 : decode cX10_attacks 36 = .ok (.istore 6, 2) := by decide +kernel
theorem dX10_attacks_38 : decode cX10_attacks 38 = .ok (.iconst (-1), 1) := by decide +kernel
theorem dX10_attacks_39 : decode cX10_attacks 39 = .ok (.istore 7, 2) := by decide +kernel
theorem dX10_attacks_41 : decode cX10_attacks 41 = .ok (.iload 5, 2) := by decide +kernel
theorem dX10_attacks_43 : decode cX10_attacks 43 = .ok (.iconst 1, 1) := by decide +kernel
theorem dX10_attacks_44 : decode cX10_attacks 44 = .ok (.isub, 1) := by decide +kernel
theorem dX10_attacks_45 : decode cX10_attacks 45 = .ok (.istore 8, 2) := by decide +kernel
theorem dX10_attacks_47 : decode cX10_attacks 47 = .ok (.iload 8, 2) := by decide +kernel
theorem dX10_attacks_49 : decode cX10_attacks 49 = .ok (.ifCond .lt 33, 3) := by decide +kernel
theorem dX10_attacks_52 : decode cX10_attacks 52 = .ok (.aload_n 0, 1) := by decide +kernel
theorem dX10_attacks_53 : decode cX10_attacks 53 = .ok (.iload_n 1, 1) := by decide +kernel
theorem dX10_attacks_54 : decode cX10_attacks 54 = .ok (.iload_n 2, 1) := by decide +kernel
theorem dX10_attacks_55 : decode cX10_attacks 55 = .ok (.iload_n 3, 1) := by decide +kernel
theorem dX10_attacks_56 : decode cX10_attacks 56 = .ok (.iload 8, 2) := by decide +kernel
theorem dX10_attacks_58 : decode cX10_attacks 58 = .ok (.invokevirtual 323, 3) := by decide +kernel
theorem dX10_attacks_61 : decode cX10_attacks 61 = .ok (.aload_n 0, 1) := by decide +kernel
theorem dX10_attacks_62 : decode cX10_attacks 62 = .ok (.iload_n 3, 1) := by decide +kernel
theorem dX10_attacks_63 : decode cX10_attacks 63 = .ok (.invokevirtual 327, 3) := by decide +kernel
theorem dX10_attacks_66 : decode cX10_attacks 66 = .ok (.ifCond .eq 10, 3) := by decide +kernel
theorem dX10_attacks_69 : decode cX10_attacks 69 = .ok (.iinc 6 1, 3) := by decide +kernel
theorem dX10_attacks_72 : decode cX10_attacks 72 = .ok (.iload 8, 2) := by decide +kernel
theorem dX10_attacks_74 : decode cX10_attacks 74 = .ok (.istore 7, 2) := by decide +kernel
theorem dX10_attacks_76 : decode cX10_attacks 76 = .ok (.iinc 8 (-1), 3) := by decide +kernel
theorem dX10_attacks_79 : decode cX10_attacks 79 = .ok (.goto (-32), 3) := by decide +kernel
theorem dX10_attacks_82 : decode cX10_attacks 82 = .ok (.iload 4, 2) := by decide +kernel
theorem dX10_attacks_84 : decode cX10_attacks 84 = .ok (.tableswitch 37 0 2 #[28, 31, 34], 28) := by decide +kernel
theorem dX10_attacks_112 : decode cX10_attacks 112 = .ok (.iload 5, 2) := by decide +kernel
theorem dX10_attacks_114 : decode cX10_attacks 114 = .ok (.ireturn, 1) := by decide +kernel
theorem dX10_attacks_115 : decode cX10_attacks 115 = .ok (.iload 6, 2) := by decide +kernel
theorem dX10_attacks_117 : decode cX10_attacks 117 = .ok (.ireturn, 1) := by decide +kernel
theorem dX10_attacks_118 : decode cX10_attacks 118 = .ok (.iload 7, 2) := by decide +kernel
theorem dX10_attacks_120 : decode cX10_attacks 120 = .ok (.ireturn, 1) := by decide +kernel
theorem dX10_attacks_121 : decode cX10_attacks 121 = .ok (.iload 7, 2) := by decide +kernel
theorem dX10_attacks_123 : decode cX10_attacks 123 = .ok (.iconst (-1), 1) := by decide +kernel
theorem dX10_attacks_124 : decode cX10_attacks 124 = .ok (.if_icmp .ne 5, 3) := by decide +kernel
theorem dX10_attacks_127 : decode cX10_attacks 127 = .ok (.iconst 0, 1) := by decide +kernel
theorem dX10_attacks_128 : decode cX10_attacks 128 = .ok (.ireturn, 1) := by decide +kernel
theorem dX10_attacks_129 : decode cX10_attacks 129 = .ok (.aload_n 0, 1) := by decide +kernel
theorem dX10_attacks_130 : decode cX10_attacks 130 = .ok (.iload_n 1, 1) := by decide +kernel
theorem dX10_attacks_131 : decode cX10_attacks 131 = .ok (.iload_n 2, 1) := by decide +kernel
theorem dX10_attacks_132 : decode cX10_attacks 132 = .ok (.iload_n 3, 1) := by decide +kernel
theorem dX10_attacks_133 : decode cX10_attacks 133 = .ok (.iload 7, 2) := by decide +kernel
theorem dX10_attacks_135 : decode cX10_attacks 135 = .ok (.invokevirtual 323, 3) := by decide +kernel
theorem dX10_attacks_138 : decode cX10_attacks 138 = .ok (.aload_n 0, 1) := by decide +kernel
theorem dX10_attacks_139 : decode cX10_attacks 139 = .ok (.getfield 33, 3) := by decide +kernel
theorem dX10_attacks_142 : decode cX10_attacks 142 = .ok (.invokevirtual 150, 3) := by decide +kernel
theorem dX10_attacks_145 : decode cX10_attacks 145 = .ok (.ireturn, 1) := by decide +kernel
theorem dX10_breaks_0 : decode cX10_breaks 0 = .ok (.aload_n 0, 1) := by decide +kernel
theorem dX10_breaks_1 : decode cX10_breaks 1 = .ok (.iload_n 1, 1) := by decide +kernel
theorem dX10_breaks_2 : decode cX10_breaks 2 = .ok (.iload_n 2, 1) := by decide +kernel
theorem dX10_breaks_3 : decode cX10_breaks 3 = .ok (.iload_n 3, 1) := by decide +kernel
theorem dX10_breaks_4 : decode cX10_breaks 4 = .ok (.invokevirtual 316, 3) := by decide +kernel
theorem dX10_breaks_7 : decode cX10_breaks 7 = .ok (.aload_n 0, 1) := by decide +kernel
theorem dX10_breaks_8 : decode cX10_breaks 8 = .ok (.iload 4, 2) := by decide +kernel
theorem dX10_breaks_10 : decode cX10_breaks 10 = .ok (.ifCond .lt 18, 3) := by decide +kernel
theorem dX10_breaks_13 : decode cX10_breaks 13 = .ok (.iload 4, 2) := by decide +kernel
theorem dX10_breaks_15 : decode cX10_breaks 15 = .ok (.iload_n 1, 1) := by decide +kernel
theorem dX10_breaks_16 : decode cX10_breaks 16 = .ok (.iload_n 2, 1) := by decide +kernel
theorem dX10_breaks_17 : decode cX10_breaks 17 = .ok (.iload_n 3, 1) := by decide +kernel
theorem dX10_breaks_18 : decode cX10_breaks 18 = .ok (.invokestatic 320, 3) := by decide +kernel
theorem dX10_breaks_21 : decode cX10_breaks 21 = .ok (.if_icmp .ge 7, 3) := by decide +kernel
theorem dX10_breaks_24 : decode cX10_breaks 24 = .ok (.iconst 1, 1) := by decide +kernel
theorem dX10_breaks_25 : decode cX10_breaks 25 = .ok (.goto 4, 3) := by decide +kernel
theorem dX10_breaks_28 : decode cX10_breaks 28 = .ok (.iconst 0, 1) := by decide +kernel
theorem dX10_breaks_29 : decode cX10_breaks 29 = .ok (.invokevirtual 72, 3) := by decide +kernel
theorem dX10_breaks_32 : decode cX10_breaks 32 = .ok (.aload_n 0, 1) := by decide +kernel
theorem dX10_breaks_33 : decode cX10_breaks 33 = .ok (.iload_n 1, 1) := by decide +kernel
theorem dX10_breaks_34 : decode cX10_breaks 34 = .ok (.iload_n 2, 1) := by decide +kernel
theorem dX10_breaks_35 : decode cX10_breaks 35 = .ok (.iload_n 3, 1) := by decide +kernel
theorem dX10_breaks_36 : decode cX10_breaks 36 = .ok (.iload 4, 2) := by decide +kernel
theorem dX10_breaks_38 : decode cX10_breaks 38 = .ok (.invokevirtual 323, 3) := by decide +kernel
theorem dX10_breaks_41 : decode cX10_breaks 41 = .ok (.aload_n 0, 1) := by decide +kernel
theorem dX10_breaks_42 : decode cX10_breaks 42 = .ok (.iload_n 3, 1) := by decide +kernel
theorem dX10_breaks_43 : decode cX10_breaks 43 = .ok (.invokevirtual 327, 3) := by decide +kernel
theorem dX10_breaks_46 : decode cX10_breaks 46 = .ok (.ireturn, 1) := by decide +kernel
theorem dX10_fewest_0 : decode cX10_fewest 0 = .ok (.aload_n 0, 1) := by decide +kernel
theorem dX10_fewest_1 : decode cX10_fewest 1 = .ok (.iload_n 1, 1) := by decide +kernel
theorem dX10_fewest_2 : decode cX10_fewest 2 = .ok (.ifCond .lt 21, 3) := by decide +kernel
theorem dX10_fewest_5 : decode cX10_fewest 5 = .ok (.iload_n 1, 1) := by decide +kernel
theorem dX10_fewest_6 : decode cX10_fewest 6 = .ok (.iconst 2, 1) := by decide +kernel
theorem dX10_fewest_7 : decode cX10_fewest 7 = .ok (.if_icmp .gt 16, 3) := by decide +kernel
theorem dX10_fewest_10 : decode cX10_fewest 10 = .ok (.iload_n 2, 1) := by decide +kernel
theorem dX10_fewest_11 : decode cX10_fewest 11 = .ok (.ifCond .eq 8, 3) := by decide +kernel
theorem dX10_fewest_14 : decode cX10_fewest 14 = .ok (.iload_n 2, 1) := by decide +kernel
theorem dX10_fewest_15 : decode cX10_fewest 15 = .ok (.iconst 1, 1) := by decide +kernel
theorem dX10_fewest_16 : decode cX10_fewest 16 = .ok (.if_icmp .ne 7, 3) := by decide +kernel
theorem dX10_fewest_19 : decode cX10_fewest 19 = .ok (.iconst 1, 1) := by decide +kernel
theorem dX10_fewest_20 : decode cX10_fewest 20 = .ok (.goto 4, 3) := by decide +kernel
theorem dX10_fewest_23 : decode cX10_fewest 23 = .ok (.iconst 0, 1) := by decide +kernel
theorem dX10_fewest_24 : decode cX10_fewest 24 = .ok (.invokevirtual 72, 3) := by decide +kernel
theorem dX10_fewest_27 : decode cX10_fewest 27 = .ok (.iconst 3, 1) := by decide +kernel
theorem dX10_fewest_28 : decode cX10_fewest 28 = .ok (.iconst 3, 1) := by decide +kernel
theorem dX10_fewest_29 : decode cX10_fewest 29 = .ok (.iload_n 1, 1) := by decide +kernel
theorem dX10_fewest_30 : decode cX10_fewest 30 = .ok (.imul, 1) := by decide +kernel
theorem dX10_fewest_31 : decode cX10_fewest 31 = .ok (.iconst 1, 1) := by decide +kernel
theorem dX10_fewest_32 : decode cX10_fewest 32 = .ok (.iadd, 1) := by decide +kernel
theorem dX10_fewest_33 : decode cX10_fewest 33 = .ok (.invokestatic 330, 3) := by decide +kernel
theorem dX10_fewest_36 : decode cX10_fewest 36 = .ok (.istore_n 3, 1) := by decide +kernel
theorem dX10_fewest_37 : decode cX10_fewest 37 = .ok (.iload_n 2, 1) := by decide +kernel
theorem dX10_fewest_38 : decode cX10_fewest 38 = .ok (.ifCond .ne 7, 3) := by decide +kernel
theorem dX10_fewest_41 : decode cX10_fewest 41 = .ok (.iload_n 3, 1) := by decide +kernel
theorem dX10_fewest_42 : decode cX10_fewest 42 = .ok (.goto 10, 3) := by decide +kernel
theorem dX10_fewest_45 : decode cX10_fewest 45 = .ok (.iload_n 3, 1) := by decide +kernel
theorem dX10_fewest_46 : decode cX10_fewest 46 = .ok (.iload_n 1, 1) := by decide +kernel
theorem dX10_fewest_47 : decode cX10_fewest 47 = .ok (.iconst 1, 1) := by decide +kernel
theorem dX10_fewest_48 : decode cX10_fewest 48 = .ok (.iadd, 1) := by decide +kernel
theorem dX10_fewest_49 : decode cX10_fewest 49 = .ok (.invokestatic 288, 3) := by decide +kernel
theorem dX10_fewest_52 : decode cX10_fewest 52 = .ok (.ireturn, 1) := by decide +kernel
theorem dX10_status_0 : decode cX10_status 0 = .ok (.iload_n 1, 1) := by decide +kernel
theorem dX10_status_1 : decode cX10_status 1 = .ok (.ifCond .ne 8, 3) := by decide +kernel
theorem dX10_status_4 : decode cX10_status 4 = .ok (.aload_n 0, 1) := by decide +kernel
theorem dX10_status_5 : decode cX10_status 5 = .ok (.getfield 335, 3) := by decide +kernel
theorem dX10_status_8 : decode cX10_status 8 = .ok (.ireturn, 1) := by decide +kernel
theorem dX10_status_9 : decode cX10_status 9 = .ok (.iload_n 1, 1) := by decide +kernel
theorem dX10_status_10 : decode cX10_status 10 = .ok (.iconst 1, 1) := by decide +kernel
theorem dX10_status_11 : decode cX10_status 11 = .ok (.if_icmp .ne 10, 3) := by decide +kernel
theorem dX10_status_14 : decode cX10_status 14 = .ok (.aload_n 0, 1) := by decide +kernel
theorem dX10_status_15 : decode cX10_status 15 = .ok (.getfield 338, 3) := by decide +kernel
theorem dX10_status_18 : decode cX10_status 18 = .ok (.goto 4, 3) := by decide +kernel
theorem dX10_status_21 : decode cX10_status 21 = .ok (.iconst (-1), 1) := by decide +kernel
theorem dX10_status_22 : decode cX10_status 22 = .ok (.ireturn, 1) := by decide +kernel
theorem dX10_needSuch_0 : decode cX10_needSuch 0 = .ok (.iload_n 1, 1) := by decide +kernel
theorem dX10_needSuch_1 : decode cX10_needSuch 1 = .ok (.ifCond .ne 24, 3) := by decide +kernel
theorem dX10_needSuch_4 : decode cX10_needSuch 4 = .ok (.aload_n 0, 1) := by decide +kernel
theorem dX10_needSuch_5 : decode cX10_needSuch 5 = .ok (.dup, 1) := by decide +kernel
theorem dX10_needSuch_6 : decode cX10_needSuch 6 = .ok (.getfield 335, 3) := by decide +kernel
theorem dX10_needSuch_9 : decode cX10_needSuch 9 = .ok (.iconst 1, 1) := by decide +kernel
theorem dX10_needSuch_10 : decode cX10_needSuch 10 = .ok (.iadd, 1) := by decide +kernel
theorem dX10_needSuch_11 : decode cX10_needSuch 11 = .ok (.putfield 335, 3) := by decide +kernel
theorem dX10_needSuch_14 : decode cX10_needSuch 14 = .ok (.new 341, 3) := by decide +kernel
theorem dX10_needSuch_17 : decode cX10_needSuch 17 = .ok (.dup, 1) := by decide +kernel
theorem dX10_needSuch_18 : decode cX10_needSuch 18 = .ok (.ldc_w 343, 3) := by decide +kernel
theorem dX10_needSuch_21 : decode cX10_needSuch 21 = .ok (.invokespecial 345, 3) := by decide +kernel
theorem dX10_needSuch_24 : decode cX10_needSuch 24 = .ok (.athrow, 1) := by decide +kernel
theorem dX10_needSuch_25 : decode cX10_needSuch 25 = .ok (.return_, 1) := by decide +kernel
theorem dX10_need_0 : decode cX10_need 0 = .ok (.iload_n 1, 1) := by decide +kernel
theorem dX10_need_1 : decode cX10_need 1 = .ok (.ifCond .ne 24, 3) := by decide +kernel
theorem dX10_need_4 : decode cX10_need 4 = .ok (.aload_n 0, 1) := by decide +kernel
theorem dX10_need_5 : decode cX10_need 5 = .ok (.dup, 1) := by decide +kernel
theorem dX10_need_6 : decode cX10_need 6 = .ok (.getfield 338, 3) := by decide +kernel
theorem dX10_need_9 : decode cX10_need 9 = .ok (.iconst 1, 1) := by decide +kernel
theorem dX10_need_10 : decode cX10_need 10 = .ok (.iadd, 1) := by decide +kernel
theorem dX10_need_11 : decode cX10_need 11 = .ok (.putfield 338, 3) := by decide +kernel
theorem dX10_need_14 : decode cX10_need 14 = .ok (.new 348, 3) := by decide +kernel
theorem dX10_need_17 : decode cX10_need 17 = .ok (.dup, 1) := by decide +kernel
theorem dX10_need_18 : decode cX10_need 18 = .ok (.ldc_w 350, 3) := by decide +kernel
theorem dX10_need_21 : decode cX10_need 21 = .ok (.invokespecial 352, 3) := by decide +kernel
theorem dX10_need_24 : decode cX10_need 24 = .ok (.athrow, 1) := by decide +kernel
theorem dX10_need_25 : decode cX10_need 25 = .ok (.return_, 1) := by decide +kernel
theorem dX10_needAttack_0 : decode cX10_needAttack 0 = .ok (.aload_n 0, 1) := by decide +kernel
theorem dX10_needAttack_1 : decode cX10_needAttack 1 = .ok (.iload_n 1, 1) := by decide +kernel
theorem dX10_needAttack_2 : decode cX10_needAttack 2 = .ok (.iconst 3, 1) := by decide +kernel
theorem dX10_needAttack_3 : decode cX10_needAttack 3 = .ok (.if_icmp .eq 8, 3) := by decide +kernel
theorem dX10_needAttack_6 : decode cX10_needAttack 6 = .ok (.iload_n 1, 1) := by decide +kernel
theorem dX10_needAttack_7 : decode cX10_needAttack 7 = .ok (.iconst 4, 1) := by decide +kernel
theorem dX10_needAttack_8 : decode cX10_needAttack 8 = .ok (.if_icmp .ne 7, 3) := by decide +kernel
theorem dX10_needAttack_11 : decode cX10_needAttack 11 = .ok (.iconst 1, 1) := by decide +kernel
theorem dX10_needAttack_12 : decode cX10_needAttack 12 = .ok (.goto 4, 3) := by decide +kernel
theorem dX10_needAttack_15 : decode cX10_needAttack 15 = .ok (.iconst 0, 1) := by decide +kernel
theorem dX10_needAttack_16 : decode cX10_needAttack 16 = .ok (.invokevirtual 72, 3) := by decide +kernel
theorem dX10_needAttack_19 : decode cX10_needAttack 19 = .ok (.aload_n 0, 1) := by decide +kernel
theorem dX10_needAttack_20 : decode cX10_needAttack 20 = .ok (.iload_n 3, 1) := by decide +kernel
theorem dX10_needAttack_21 : decode cX10_needAttack 21 = .ok (.ifCond .lt 12, 3) := by decide +kernel
theorem dX10_needAttack_24 : decode cX10_needAttack 24 = .ok (.iload_n 3, 1) := by decide +kernel
theorem dX10_needAttack_25 : decode cX10_needAttack 25 = .ok (.iload_n 1, 1) := by decide +kernel
theorem dX10_needAttack_26 : decode cX10_needAttack 26 = .ok (.if_icmp .ge 7, 3) := by decide +kernel
theorem dX10_needAttack_29 : decode cX10_needAttack 29 = .ok (.iconst 1, 1) := by decide +kernel
theorem dX10_needAttack_30 : decode cX10_needAttack 30 = .ok (.goto 4, 3) := by decide +kernel
theorem dX10_needAttack_33 : decode cX10_needAttack 33 = .ok (.iconst 0, 1) := by decide +kernel
theorem dX10_needAttack_34 : decode cX10_needAttack 34 = .ok (.invokevirtual 87, 3) := by decide +kernel
theorem dX10_needAttack_37 : decode cX10_needAttack 37 = .ok (.aload_n 0, 1) := by decide +kernel
theorem dX10_needAttack_38 : decode cX10_needAttack 38 = .ok (.iload_n 2, 1) := by decide +kernel
theorem dX10_needAttack_39 : decode cX10_needAttack 39 = .ok (.iconst 1, 1) := by decide +kernel
theorem dX10_needAttack_40 : decode cX10_needAttack 40 = .ok (.if_icmp .eq 8, 3) := by decide +kernel
theorem dX10_needAttack_43 : decode cX10_needAttack 43 = .ok (.iload_n 2, 1) := by decide +kernel
theorem dX10_needAttack_44 : decode cX10_needAttack 44 = .ok (.iconst 2, 1) := by decide +kernel
theorem dX10_needAttack_45 : decode cX10_needAttack 45 = .ok (.if_icmp .ne 7, 3) := by decide +kernel
theorem dX10_needAttack_48 : decode cX10_needAttack 48 = .ok (.iconst 1, 1) := by decide +kernel
theorem dX10_needAttack_49 : decode cX10_needAttack 49 = .ok (.goto 4, 3) := by decide +kernel
theorem dX10_needAttack_52 : decode cX10_needAttack 52 = .ok (.iconst 0, 1) := by decide +kernel
theorem dX10_needAttack_53 : decode cX10_needAttack 53 = .ok (.invokevirtual 72, 3) := by decide +kernel
theorem dX10_needAttack_56 : decode cX10_needAttack 56 = .ok (.return_, 1) := by decide +kernel
theorem dX10_isFraction_0 : decode cX10_isFraction 0 = .ok (.iload_n 0, 1) := by decide +kernel
theorem dX10_isFraction_1 : decode cX10_isFraction 1 = .ok (.ldc_w 353, 3) := by decide +kernel
theorem dX10_isFraction_4 : decode cX10_isFraction 4 = .ok (.if_icmp .lt 26, 3) := by decide +kernel
theorem dX10_isFraction_7 : decode cX10_isFraction 7 = .ok (.iload_n 0, 1) := by decide +kernel
theorem dX10_isFraction_8 : decode cX10_isFraction 8 = .ok (.ldc_w 354, 3) := by decide +kernel
theorem dX10_isFraction_11 : decode cX10_isFraction 11 = .ok (.if_icmp .gt 19, 3) := by decide +kernel
theorem dX10_isFraction_14 : decode cX10_isFraction 14 = .ok (.iload_n 1, 1) := by decide +kernel
theorem dX10_isFraction_15 : decode cX10_isFraction 15 = .ok (.iconst 1, 1) := by decide +kernel
theorem dX10_isFraction_16 : decode cX10_isFraction 16 = .ok (.if_icmp .lt 14, 3) := by decide +kernel
theorem dX10_isFraction_19 : decode cX10_isFraction 19 = .ok (.iload_n 1, 1) := by decide +kernel
theorem dX10_isFraction_20 : decode cX10_isFraction 20 = .ok (.sipush 999, 3) := by decide +kernel
theorem dX10_isFraction_23 : decode cX10_isFraction 23 = .ok (.if_icmp .gt 7, 3) := by decide +kernel
theorem dX10_isFraction_26 : decode cX10_isFraction 26 = .ok (.iconst 1, 1) := by decide +kernel
theorem dX10_isFraction_27 : decode cX10_isFraction 27 = .ok (.goto 4, 3) := by decide +kernel
theorem dX10_isFraction_30 : decode cX10_isFraction 30 = .ok (.iconst 0, 1) := by decide +kernel
theorem dX10_isFraction_31 : decode cX10_isFraction 31 = .ok (.ireturn, 1) := by decide +kernel
theorem dX10_isWayNearer_0 : decode cX10_isWayNearer 0 = .ok (.iload_n 0, 1) := by decide +kernel
theorem dX10_isWayNearer_1 : decode cX10_isWayNearer 1 = .ok (.ifCond .lt 22, 3) := by decide +kernel
theorem dX10_isWayNearer_4 : decode cX10_isWayNearer 4 = .ok (.iload_n 0, 1) := by decide +kernel
theorem dX10_isWayNearer_5 : decode cX10_isWayNearer 5 = .ok (.bipush 60, 2) := by decide +kernel
theorem dX10_isWayNearer_7 : decode cX10_isWayNearer 7 = .ok (.if_icmp .gt 16, 3) := by decide +kernel
theorem dX10_isWayNearer_10 : decode cX10_isWayNearer 10 = .ok (.iload_n 1, 1) := by decide +kernel
theorem dX10_isWayNearer_11 : decode cX10_isWayNearer 11 = .ok (.ifCond .eq 8, 3) := by decide +kernel
theorem dX10_isWayNearer_14 : decode cX10_isWayNearer 14 = .ok (.iload_n 1, 1) := by decide +kernel
theorem dX10_isWayNearer_15 : decode cX10_isWayNearer 15 = .ok (.iconst 1, 1) := by decide +kernel
theorem dX10_isWayNearer_16 : decode cX10_isWayNearer 16 = .ok (.if_icmp .ne 7, 3) := by decide +kernel
theorem dX10_isWayNearer_19 : decode cX10_isWayNearer 19 = .ok (.iconst 1, 1) := by decide +kernel
theorem dX10_isWayNearer_20 : decode cX10_isWayNearer 20 = .ok (.goto 4, 3) := by decide +kernel
theorem dX10_isWayNearer_23 : decode cX10_isWayNearer 23 = .ok (.iconst 0, 1) := by decide +kernel
theorem dX10_isWayNearer_24 : decode cX10_isWayNearer 24 = .ok (.ireturn, 1) := by decide +kernel
theorem dX10_messagesOf_0 : decode cX10_messagesOf 0 = .ok (.iconst 1, 1) := by decide +kernel
theorem dX10_messagesOf_1 : decode cX10_messagesOf 1 = .ok (.istore_n 2, 1) := by decide +kernel
theorem dX10_messagesOf_2 : decode cX10_messagesOf 2 = .ok (.iconst 0, 1) := by decide +kernel
theorem dX10_messagesOf_3 : decode cX10_messagesOf 3 = .ok (.istore_n 3, 1) := by decide +kernel
theorem dX10_messagesOf_4 : decode cX10_messagesOf 4 = .ok (.iconst 1, 1) := by decide +kernel
theorem dX10_messagesOf_5 : decode cX10_messagesOf 5 = .ok (.istore 4, 2) := by decide +kernel
theorem dX10_messagesOf_7 : decode cX10_messagesOf 7 = .ok (.iload 4, 2) := by decide +kernel
theorem dX10_messagesOf_9 : decode cX10_messagesOf 9 = .ok (.iload_n 1, 1) := by decide +kernel
theorem dX10_messagesOf_10 : decode cX10_messagesOf 10 = .ok (.if_icmp .gt 20, 3) := by decide +kernel
theorem dX10_messagesOf_13 : decode cX10_messagesOf 13 = .ok (.iload_n 2, 1) := by decide +kernel
theorem dX10_messagesOf_14 : decode cX10_messagesOf 14 = .ok (.iload_n 0, 1) := by decide +kernel
theorem dX10_messagesOf_15 : decode cX10_messagesOf 15 = .ok (.iload 4, 2) := by decide +kernel
theorem dX10_messagesOf_17 : decode cX10_messagesOf 17 = .ok (.isub, 1) := by decide +kernel
theorem dX10_messagesOf_18 : decode cX10_messagesOf 18 = .ok (.imul, 1) := by decide +kernel
theorem dX10_messagesOf_19 : decode cX10_messagesOf 19 = .ok (.istore_n 2, 1) := by decide +kernel
theorem dX10_messagesOf_20 : decode cX10_messagesOf 20 = .ok (.iload_n 3, 1) := by decide +kernel
theorem dX10_messagesOf_21 : decode cX10_messagesOf 21 = .ok (.iload_n 2, 1) := by decide +kernel
theorem dX10_messagesOf_22 : decode cX10_messagesOf 22 = .ok (.iadd, 1) := by decide +kernel
theorem dX10_messagesOf_23 : decode cX10_messagesOf 23 = .ok (.istore_n 3, 1) := by decide +kernel
theorem dX10_messagesOf_24 : decode cX10_messagesOf 24 = .ok (.iinc 4 1, 3) := by decide +kernel
theorem dX10_messagesOf_27 : decode cX10_messagesOf 27 = .ok (.goto (-20), 3) := by decide +kernel
theorem dX10_messagesOf_30 : decode cX10_messagesOf 30 = .ok (.iload_n 3, 1) := by decide +kernel
theorem dX10_messagesOf_31 : decode cX10_messagesOf 31 = .ok (.ireturn, 1) := by decide +kernel
theorem dX10_liarsMessages_0 : decode cX10_liarsMessages 0 = .ok (.iload_n 2, 1) := by decide +kernel
theorem dX10_liarsMessages_1 : decode cX10_liarsMessages 1 = .ok (.ifCond .ne 7, 3) := by decide +kernel
theorem dX10_liarsMessages_4 : decode cX10_liarsMessages 4 = .ok (.iload_n 0, 1) := by decide +kernel
theorem dX10_liarsMessages_5 : decode cX10_liarsMessages 5 = .ok (.iconst 1, 1) := by decide +kernel
theorem dX10_liarsMessages_6 : decode cX10_liarsMessages 6 = .ok (.isub, 1) := by decide +kernel
theorem dX10_liarsMessages_7 : decode cX10_liarsMessages 7 = .ok (.ireturn, 1) := by decide +kernel
theorem dX10_liarsMessages_8 : decode cX10_liarsMessages 8 = .ok (.iload_n 1, 1) := by decide +kernel
theorem dX10_liarsMessages_9 : decode cX10_liarsMessages 9 = .ok (.iconst 2, 1) := by decide +kernel
theorem dX10_liarsMessages_10 : decode cX10_liarsMessages 10 = .ok (.if_icmp .ne 9, 3) := by decide +kernel
theorem dX10_liarsMessages_13 : decode cX10_liarsMessages 13 = .ok (.iload_n 0, 1) := by decide +kernel
theorem dX10_liarsMessages_14 : decode cX10_liarsMessages 14 = .ok (.iconst 2, 1) := by decide +kernel
theorem dX10_liarsMessages_15 : decode cX10_liarsMessages 15 = .ok (.isub, 1) := by decide +kernel
theorem dX10_liarsMessages_16 : decode cX10_liarsMessages 16 = .ok (.goto 4, 3) := by decide +kernel
theorem dX10_liarsMessages_19 : decode cX10_liarsMessages 19 = .ok (.iconst 0, 1) := by decide +kernel
theorem dX10_liarsMessages_20 : decode cX10_liarsMessages 20 = .ok (.ireturn, 1) := by decide +kernel
theorem dX10_waysOf_0 : decode cX10_waysOf 0 = .ok (.iconst 1, 1) := by decide +kernel
theorem dX10_waysOf_1 : decode cX10_waysOf 1 = .ok (.istore_n 3, 1) := by decide +kernel
theorem dX10_waysOf_2 : decode cX10_waysOf 2 = .ok (.iload_n 0, 1) := by decide +kernel
theorem dX10_waysOf_3 : decode cX10_waysOf 3 = .ok (.iload_n 1, 1) := by decide +kernel
theorem dX10_waysOf_4 : decode cX10_waysOf 4 = .ok (.iload_n 2, 1) := by decide +kernel
theorem dX10_waysOf_5 : decode cX10_waysOf 5 = .ok (.invokestatic 355, 3) := by decide +kernel
theorem dX10_waysOf_8 : decode cX10_waysOf 8 = .ok (.istore 4, 2) := by decide +kernel
theorem dX10_waysOf_10 : decode cX10_waysOf 10 = .ok (.iload 4, 2) := by decide +kernel
theorem dX10_waysOf_12 : decode cX10_waysOf 12 = .ok (.ifCond .le 13, 3) := by decide +kernel
theorem dX10_waysOf_15 : decode cX10_waysOf 15 = .ok (.iload_n 3, 1) := by decide +kernel
theorem dX10_waysOf_16 : decode cX10_waysOf 16 = .ok (.iconst 3, 1) := by decide +kernel
theorem dX10_waysOf_17 : decode cX10_waysOf 17 = .ok (.imul, 1) := by decide +kernel
theorem dX10_waysOf_18 : decode cX10_waysOf 18 = .ok (.istore_n 3, 1) := by decide +kernel
theorem dX10_waysOf_19 : decode cX10_waysOf 19 = .ok (.iinc 4 (-1), 3) := by decide +kernel
theorem dX10_waysOf_22 : decode cX10_waysOf 22 = .ok (.goto (-12), 3) := by decide +kernel
theorem dX10_waysOf_25 : decode cX10_waysOf 25 = .ok (.iload_n 3, 1) := by decide +kernel
theorem dX10_waysOf_26 : decode cX10_waysOf 26 = .ok (.ireturn, 1) := by decide +kernel
theorem dX10_attack_0 : decode cX10_attack 0 = .ok (.aload_n 0, 1) := by decide +kernel
theorem dX10_attack_1 : decode cX10_attack 1 = .ok (.getfield 23, 3) := by decide +kernel
theorem dX10_attack_4 : decode cX10_attack 4 = .ok (.iload_n 1, 1) := by decide +kernel
theorem dX10_attack_5 : decode cX10_attack 5 = .ok (.iload_n 2, 1) := by decide +kernel
theorem dX10_attack_6 : decode cX10_attack 6 = .ok (.iconst 1, 1) := by decide +kernel
theorem dX10_attack_7 : decode cX10_attack 7 = .ok (.isub, 1) := by decide +kernel
theorem dX10_attack_8 : decode cX10_attack 8 = .ok (.invokevirtual 68, 3) := by decide +kernel
theorem dX10_attack_11 : decode cX10_attack 11 = .ok (.aload_n 0, 1) := by decide +kernel
theorem dX10_attack_12 : decode cX10_attack 12 = .ok (.getfield 23, 3) := by decide +kernel
theorem dX10_attack_15 : decode cX10_attack 15 = .ok (.getfield 94, 3) := by decide +kernel
theorem dX10_attack_18 : decode cX10_attack 18 = .ok (.iconst 0, 1) := by decide +kernel
theorem dX10_attack_19 : decode cX10_attack 19 = .ok (.fconst 1, 1) := by decide +kernel
theorem dX10_attack_20 : decode cX10_attack 20 = .ok (.invokestatic 97, 3) := by decide +kernel
theorem dX10_attack_23 : decode cX10_attack 23 = .ok (.iastore, 1) := by decide +kernel
theorem dX10_attack_24 : decode cX10_attack 24 = .ok (.aload_n 0, 1) := by decide +kernel
theorem dX10_attack_25 : decode cX10_attack 25 = .ok (.getfield 23, 3) := by decide +kernel
theorem dX10_attack_28 : decode cX10_attack 28 = .ok (.getfield 125, 3) := by decide +kernel
theorem dX10_attack_31 : decode cX10_attack 31 = .ok (.iload_n 3, 1) := by decide +kernel
theorem dX10_attack_32 : decode cX10_attack 32 = .ok (.invokevirtual 358, 3) := by decide +kernel
theorem dX10_attack_35 : decode cX10_attack 35 = .ok (.iload_n 1, 1) := by decide +kernel
theorem dX10_attack_36 : decode cX10_attack 36 = .ok (.iload_n 2, 1) := by decide +kernel
theorem dX10_attack_37 : decode cX10_attack 37 = .ok (.iload_n 3, 1) := by decide +kernel
theorem dX10_attack_38 : decode cX10_attack 38 = .ok (.invokestatic 320, 3) := by decide +kernel
theorem dX10_attack_41 : decode cX10_attack 41 = .ok (.iconst 3, 1) := by decide +kernel
theorem dX10_attack_42 : decode cX10_attack 42 = .ok (.idiv, 1) := by decide +kernel
theorem dX10_attack_43 : decode cX10_attack 43 = .ok (.istore 5, 2) := by decide +kernel
theorem dX10_attack_45 : decode cX10_attack 45 = .ok (.iconst 1, 1) := by decide +kernel
theorem dX10_attack_46 : decode cX10_attack 46 = .ok (.istore 6, 2) := by decide +kernel
theorem dX10_attack_48 : decode cX10_attack 48 = .ok (.iload 6, 2) := by decide +kernel
theorem dX10_attack_50 : decode cX10_attack 50 = .ok (.iload_n 1, 1) := by decide +kernel
theorem dX10_attack_51 : decode cX10_attack 51 = .ok (.if_icmp .ge 91, 3) := by decide +kernel
theorem dX10_attack_54 : decode cX10_attack 54 = .ok (.iload 6, 2) := by decide +kernel
theorem dX10_attack_56 : decode cX10_attack 56 = .ok (.iload_n 3, 1) := by decide +kernel
theorem dX10_attack_57 : decode cX10_attack 57 = .ok (.if_icmp .eq 79, 3) := by decide +kernel
theorem dX10_attack_60 : decode cX10_attack 60 = .ok (.iload 5, 2) := by decide +kernel
theorem dX10_attack_62 : decode cX10_attack 62 = .ok (.ifCond .le 74, 3) := by decide +kernel
theorem dX10_attack_65 : decode cX10_attack 65 = .ok (.iload 4, 2) := by decide +kernel
theorem dX10_attack_67 : decode cX10_attack 67 = .ok (.iload 5, 2) := by decide +kernel
theorem dX10_attack_69 : decode cX10_attack 69 = .ok (.idiv, 1) := by decide +kernel
theorem dX10_attack_70 : decode cX10_attack 70 = .ok (.iconst 3, 1) := by decide +kernel
theorem dX10_attack_71 : decode cX10_attack 71 = .ok (.irem, 1) := by decide +kernel
theorem dX10_attack_72 : decode cX10_attack 72 = .ok (.istore 7, 2) := by decide +kernel
theorem dX10_attack_74 : decode cX10_attack 74 = .ok (.iload 5, 2) := by decide +kernel
theorem dX10_attack_76 : decode cX10_attack 76 = .ok (.iconst 3, 1) := by decide +kernel
theorem dX10_attack_77 : decode cX10_attack 77 = .ok (.idiv, 1) := by decide +kernel
theorem dX10_attack_78 : decode cX10_attack 78 = .ok (.istore 5, 2) := by decide +kernel
theorem dX10_attack_80 : decode cX10_attack 80 = .ok (.iload 7, 2) := by decide +kernel
theorem dX10_attack_82 : decode cX10_attack 82 = .ok (.iconst 2, 1) := by decide +kernel
theorem dX10_attack_83 : decode cX10_attack 83 = .ok (.if_icmp .ne 7, 3) := by decide +kernel
theorem dX10_attack_86 : decode cX10_attack 86 = .ok (.iconst 2, 1) := by decide +kernel
theorem dX10_attack_87 : decode cX10_attack 87 = .ok (.goto 4, 3) := by decide +kernel
theorem dX10_attack_90 : decode cX10_attack 90 = .ok (.iconst 0, 1) := by decide +kernel
theorem dX10_attack_91 : decode cX10_attack 91 = .ok (.istore 8, 2) := by decide +kernel
theorem dX10_attack_93 : decode cX10_attack 93 = .ok (.aload_n 0, 1) := by decide +kernel
theorem dX10_attack_94 : decode cX10_attack 94 = .ok (.getfield 23, 3) := by decide +kernel
theorem dX10_attack_97 : decode cX10_attack 97 = .ok (.getfield 125, 3) := by decide +kernel
theorem dX10_attack_100 : decode cX10_attack 100 = .ok (.iload_n 3, 1) := by decide +kernel
theorem dX10_attack_101 : decode cX10_attack 101 = .ok (.iload_n 3, 1) := by decide +kernel
theorem dX10_attack_102 : decode cX10_attack 102 = .ok (.ifCond .ne 7, 3) := by decide +kernel
theorem dX10_attack_105 : decode cX10_attack 105 = .ok (.iconst 1, 1) := by decide +kernel
theorem dX10_attack_106 : decode cX10_attack 106 = .ok (.goto 4, 3) := by decide +kernel
theorem dX10_attack_109 : decode cX10_attack 109 = .ok (.iconst 2, 1) := by decide +kernel
theorem dX10_attack_110 : decode cX10_attack 110 = .ok (.iload 6, 2) := by decide +kernel
theorem dX10_attack_112 : decode cX10_attack 112 = .ok (.iconst (-1), 1) := by decide +kernel
theorem dX10_attack_113 : decode cX10_attack 113 = .ok (.invokevirtual 361, 3) := by decide +kernel
theorem dX10_attack_116 : decode cX10_attack 116 = .ok (.aload_n 0, 1) := by decide +kernel
theorem dX10_attack_117 : decode cX10_attack 117 = .ok (.getfield 23, 3) := by decide +kernel
theorem dX10_attack_120 : decode cX10_attack 120 = .ok (.getfield 125, 3) := by decide +kernel
theorem dX10_attack_123 : decode cX10_attack 123 = .ok (.iload_n 3, 1) := by decide +kernel
theorem dX10_attack_124 : decode cX10_attack 124 = .ok (.iload 8, 2) := by decide +kernel
theorem dX10_attack_126 : decode cX10_attack 126 = .ok (.iload 7, 2) := by decide +kernel
theorem dX10_attack_128 : decode cX10_attack 128 = .ok (.i2f, 1) := by decide +kernel
theorem dX10_attack_129 : decode cX10_attack 129 = .ok (.invokestatic 97, 3) := by decide +kernel
theorem dX10_attack_132 : decode cX10_attack 132 = .ok (.iconst 0, 1) := by decide +kernel
theorem dX10_attack_133 : decode cX10_attack 133 = .ok (.invokevirtual 364, 3) := by decide +kernel
theorem dX10_attack_136 : decode cX10_attack 136 = .ok (.iinc 6 1, 3) := by decide +kernel
theorem dX10_attack_139 : decode cX10_attack 139 = .ok (.goto (-91), 3) := by decide +kernel
theorem dX10_attack_142 : decode cX10_attack 142 = .ok (.aload_n 0, 1) := by decide +kernel
theorem dX10_attack_143 : decode cX10_attack 143 = .ok (.getfield 33, 3) := by decide +kernel
theorem dX10_attack_146 : decode cX10_attack 146 = .ok (.aload_n 0, 1) := by decide +kernel
theorem dX10_attack_147 : decode cX10_attack 147 = .ok (.getfield 23, 3) := by decide +kernel
theorem dX10_attack_150 : decode cX10_attack 150 = .ok (.iconst 0, 1) := by decide +kernel
theorem dX10_attack_151 : decode cX10_attack 151 = .ok (.invokevirtual 146, 3) := by decide +kernel
theorem dX10_attack_154 : decode cX10_attack 154 = .ok (.return_, 1) := by decide +kernel
theorem dX10_isBroken_0 : decode cX10_isBroken 0 = .ok (.iload_n 1, 1) := by decide +kernel
theorem dX10_isBroken_1 : decode cX10_isBroken 1 = .ok (.ifCond .ne 22, 3) := by decide +kernel
theorem dX10_isBroken_4 : decode cX10_isBroken 4 = .ok (.aload_n 0, 1) := by decide +kernel
theorem dX10_isBroken_5 : decode cX10_isBroken 5 = .ok (.getfield 33, 3) := by decide +kernel
theorem dX10_isBroken_8 : decode cX10_isBroken 8 = .ok (.invokevirtual 150, 3) := by decide +kernel
theorem dX10_isBroken_11 : decode cX10_isBroken 11 = .ok (.iconst 1, 1) := by decide +kernel
theorem dX10_isBroken_12 : decode cX10_isBroken 12 = .ok (.if_icmp .le 7, 3) := by decide +kernel
theorem dX10_isBroken_15 : decode cX10_isBroken 15 = .ok (.iconst 1, 1) := by decide +kernel
theorem dX10_isBroken_16 : decode cX10_isBroken 16 = .ok (.goto 22, 3) := by decide +kernel
theorem dX10_isBroken_19 : decode cX10_isBroken 19 = .ok (.iconst 0, 1) := by decide +kernel
theorem dX10_isBroken_20 : decode cX10_isBroken 20 = .ok (.goto 18, 3) := by decide +kernel
theorem dX10_isBroken_23 : decode cX10_isBroken 23 = .ok (.aload_n 0, 1) := by decide +kernel
theorem dX10_isBroken_24 : decode cX10_isBroken 24 = .ok (.getfield 33, 3) := by decide +kernel
theorem dX10_isBroken_27 : decode cX10_isBroken 27 = .ok (.invokevirtual 214, 3) := by decide +kernel
theorem dX10_isBroken_30 : decode cX10_isBroken 30 = .ok (.ifCond .ne 7, 3) := by decide +kernel
theorem dX10_isBroken_33 : decode cX10_isBroken 33 = .ok (.iconst 1, 1) := by decide +kernel
theorem dX10_isBroken_34 : decode cX10_isBroken 34 = .ok (.goto 4, 3) := by decide +kernel
theorem dX10_isBroken_37 : decode cX10_isBroken 37 = .ok (.iconst 0, 1) := by decide +kernel
theorem dX10_isBroken_38 : decode cX10_isBroken 38 = .ok (.ireturn, 1) := by decide +kernel
theorem dJxe99ae_isNaN_b9ae7_0 : decode cJxe99ae_isNaN_b9ae7 0 = .ok (.dload_n 0, 1) := by decide +kernel
theorem dJxe99ae_isNaN_b9ae7_1 : decode cJxe99ae_isNaN_b9ae7 1 = .ok (.dload_n 0, 1) := by decide +kernel
theorem dJxe99ae_isNaN_b9ae7_2 : decode cJxe99ae_isNaN_b9ae7 2 = .ok (.dcmp .l, 1) := by decide +kernel
theorem dJxe99ae_isNaN_b9ae7_3 : decode cJxe99ae_isNaN_b9ae7 3 = .ok (.ifCond .eq 7, 3) := by decide +kernel
theorem dJxe99ae_isNaN_b9ae7_6 : decode cJxe99ae_isNaN_b9ae7 6 = .ok (.iconst 1, 1) := by decide +kernel
theorem dJxe99ae_isNaN_b9ae7_7 : decode cJxe99ae_isNaN_b9ae7 7 = .ok (.goto 4, 3) := by decide +kernel
theorem dJxe99ae_isNaN_b9ae7_10 : decode cJxe99ae_isNaN_b9ae7 10 = .ok (.iconst 0, 1) := by decide +kernel
theorem dJxe99ae_isNaN_b9ae7_11 : decode cJxe99ae_isNaN_b9ae7 11 = .ok (.ireturn, 1) := by decide +kernel
theorem dJxe99ae_doubleToLongBits_ccdee_0 : decode cJxe99ae_doubleToLongBits_ccdee 0 = .ok (.dload_n 0, 1) := by decide +kernel
theorem dJxe99ae_doubleToLongBits_ccdee_1 : decode cJxe99ae_doubleToLongBits_ccdee 1 = .ok (.invokestatic 122, 3) := by decide +kernel
theorem dJxe99ae_doubleToLongBits_ccdee_4 : decode cJxe99ae_doubleToLongBits_ccdee 4 = .ok (.ifCond .ne 8, 3) := by decide +kernel
theorem dJxe99ae_doubleToLongBits_ccdee_7 : decode cJxe99ae_doubleToLongBits_ccdee 7 = .ok (.dload_n 0, 1) := by decide +kernel
theorem dJxe99ae_doubleToLongBits_ccdee_8 : decode cJxe99ae_doubleToLongBits_ccdee 8 = .ok (.invokestatic 134, 3) := by decide +kernel
theorem dJxe99ae_doubleToLongBits_ccdee_11 : decode cJxe99ae_doubleToLongBits_ccdee 11 = .ok (.lreturn, 1) := by decide +kernel
theorem dJxe99ae_doubleToLongBits_ccdee_12 : decode cJxe99ae_doubleToLongBits_ccdee 12 = .ok (.ldc2_w 137, 3) := by decide +kernel
theorem dJxe99ae_doubleToLongBits_ccdee_15 : decode cJxe99ae_doubleToLongBits_ccdee 15 = .ok (.lreturn, 1) := by decide +kernel
theorem dJxf58ca_isNaN_12338_0 : decode cJxf58ca_isNaN_12338 0 = .ok (.fload_n 0, 1) := by decide +kernel
theorem dJxf58ca_isNaN_12338_1 : decode cJxf58ca_isNaN_12338 1 = .ok (.fload_n 0, 1) := by decide +kernel
theorem dJxf58ca_isNaN_12338_2 : decode cJxf58ca_isNaN_12338 2 = .ok (.fcmp .l, 1) := by decide +kernel
theorem dJxf58ca_isNaN_12338_3 : decode cJxf58ca_isNaN_12338 3 = .ok (.ifCond .eq 7, 3) := by decide +kernel
theorem dJxf58ca_isNaN_12338_6 : decode cJxf58ca_isNaN_12338 6 = .ok (.iconst 1, 1) := by decide +kernel
theorem dJxf58ca_isNaN_12338_7 : decode cJxf58ca_isNaN_12338 7 = .ok (.goto 4, 3) := by decide +kernel
theorem dJxf58ca_isNaN_12338_10 : decode cJxf58ca_isNaN_12338 10 = .ok (.iconst 0, 1) := by decide +kernel
theorem dJxf58ca_isNaN_12338_11 : decode cJxf58ca_isNaN_12338 11 = .ok (.ireturn, 1) := by decide +kernel
theorem dJxf58ca_floatToIntBits_5c35a_0 : decode cJxf58ca_floatToIntBits_5c35a 0 = .ok (.fload_n 0, 1) := by decide +kernel
theorem dJxf58ca_floatToIntBits_5c35a_1 : decode cJxf58ca_floatToIntBits_5c35a 1 = .ok (.invokestatic 59, 3) := by decide +kernel
theorem dJxf58ca_floatToIntBits_5c35a_4 : decode cJxf58ca_floatToIntBits_5c35a 4 = .ok (.ifCond .ne 8, 3) := by decide +kernel
theorem dJxf58ca_floatToIntBits_5c35a_7 : decode cJxf58ca_floatToIntBits_5c35a 7 = .ok (.fload_n 0, 1) := by decide +kernel
theorem dJxf58ca_floatToIntBits_5c35a_8 : decode cJxf58ca_floatToIntBits_5c35a 8 = .ok (.invokestatic 74, 3) := by decide +kernel
theorem dJxf58ca_floatToIntBits_5c35a_11 : decode cJxf58ca_floatToIntBits_5c35a 11 = .ok (.ireturn, 1) := by decide +kernel
theorem dJxf58ca_floatToIntBits_5c35a_12 : decode cJxf58ca_floatToIntBits_5c35a 12 = .ok (.ldc 77, 2) := by decide +kernel
theorem dJxf58ca_floatToIntBits_5c35a_14 : decode cJxf58ca_floatToIntBits_5c35a 14 = .ok (.ireturn, 1) := by decide +kernel
theorem dJ6_bitCount_0f7a4_0 : decode cJ6_bitCount_0f7a4 0 = .ok (.iload_n 0, 1) := by decide +kernel
theorem dJ6_bitCount_0f7a4_1 : decode cJ6_bitCount_0f7a4 1 = .ok (.iload_n 0, 1) := by decide +kernel
theorem dJ6_bitCount_0f7a4_2 : decode cJ6_bitCount_0f7a4 2 = .ok (.iconst 1, 1) := by decide +kernel
theorem dJ6_bitCount_0f7a4_3 : decode cJ6_bitCount_0f7a4 3 = .ok (.iushr, 1) := by decide +kernel
theorem dJ6_bitCount_0f7a4_4 : decode cJ6_bitCount_0f7a4 4 = .ok (.ldc_w 265, 3) := by decide +kernel
theorem dJ6_bitCount_0f7a4_7 : decode cJ6_bitCount_0f7a4 7 = .ok (.iand, 1) := by decide +kernel
theorem dJ6_bitCount_0f7a4_8 : decode cJ6_bitCount_0f7a4 8 = .ok (.isub, 1) := by decide +kernel
theorem dJ6_bitCount_0f7a4_9 : decode cJ6_bitCount_0f7a4 9 = .ok (.istore_n 0, 1) := by decide +kernel
theorem dJ6_bitCount_0f7a4_10 : decode cJ6_bitCount_0f7a4 10 = .ok (.iload_n 0, 1) := by decide +kernel
theorem dJ6_bitCount_0f7a4_11 : decode cJ6_bitCount_0f7a4 11 = .ok (.ldc_w 266, 3) := by decide +kernel
theorem dJ6_bitCount_0f7a4_14 : decode cJ6_bitCount_0f7a4 14 = .ok (.iand, 1) := by decide +kernel
theorem dJ6_bitCount_0f7a4_15 : decode cJ6_bitCount_0f7a4 15 = .ok (.iload_n 0, 1) := by decide +kernel
theorem dJ6_bitCount_0f7a4_16 : decode cJ6_bitCount_0f7a4 16 = .ok (.iconst 2, 1) := by decide +kernel
theorem dJ6_bitCount_0f7a4_17 : decode cJ6_bitCount_0f7a4 17 = .ok (.iushr, 1) := by decide +kernel
theorem dJ6_bitCount_0f7a4_18 : decode cJ6_bitCount_0f7a4 18 = .ok (.ldc_w 266, 3) := by decide +kernel
theorem dJ6_bitCount_0f7a4_21 : decode cJ6_bitCount_0f7a4 21 = .ok (.iand, 1) := by decide +kernel
theorem dJ6_bitCount_0f7a4_22 : decode cJ6_bitCount_0f7a4 22 = .ok (.iadd, 1) := by decide +kernel
theorem dJ6_bitCount_0f7a4_23 : decode cJ6_bitCount_0f7a4 23 = .ok (.istore_n 0, 1) := by decide +kernel
theorem dJ6_bitCount_0f7a4_24 : decode cJ6_bitCount_0f7a4 24 = .ok (.iload_n 0, 1) := by decide +kernel
theorem dJ6_bitCount_0f7a4_25 : decode cJ6_bitCount_0f7a4 25 = .ok (.iload_n 0, 1) := by decide +kernel
theorem dJ6_bitCount_0f7a4_26 : decode cJ6_bitCount_0f7a4 26 = .ok (.iconst 4, 1) := by decide +kernel
theorem dJ6_bitCount_0f7a4_27 : decode cJ6_bitCount_0f7a4 27 = .ok (.iushr, 1) := by decide +kernel
theorem dJ6_bitCount_0f7a4_28 : decode cJ6_bitCount_0f7a4 28 = .ok (.iadd, 1) := by decide +kernel
theorem dJ6_bitCount_0f7a4_29 : decode cJ6_bitCount_0f7a4 29 = .ok (.ldc_w 267, 3) := by decide +kernel
theorem dJ6_bitCount_0f7a4_32 : decode cJ6_bitCount_0f7a4 32 = .ok (.iand, 1) := by decide +kernel
theorem dJ6_bitCount_0f7a4_33 : decode cJ6_bitCount_0f7a4 33 = .ok (.istore_n 0, 1) := by decide +kernel
theorem dJ6_bitCount_0f7a4_34 : decode cJ6_bitCount_0f7a4 34 = .ok (.iload_n 0, 1) := by decide +kernel
theorem dJ6_bitCount_0f7a4_35 : decode cJ6_bitCount_0f7a4 35 = .ok (.iload_n 0, 1) := by decide +kernel
theorem dJ6_bitCount_0f7a4_36 : decode cJ6_bitCount_0f7a4 36 = .ok (.bipush 8, 2) := by decide +kernel
theorem dJ6_bitCount_0f7a4_38 : decode cJ6_bitCount_0f7a4 38 = .ok (.iushr, 1) := by decide +kernel
theorem dJ6_bitCount_0f7a4_39 : decode cJ6_bitCount_0f7a4 39 = .ok (.iadd, 1) := by decide +kernel
theorem dJ6_bitCount_0f7a4_40 : decode cJ6_bitCount_0f7a4 40 = .ok (.istore_n 0, 1) := by decide +kernel
theorem dJ6_bitCount_0f7a4_41 : decode cJ6_bitCount_0f7a4 41 = .ok (.iload_n 0, 1) := by decide +kernel
theorem dJ6_bitCount_0f7a4_42 : decode cJ6_bitCount_0f7a4 42 = .ok (.iload_n 0, 1) := by decide +kernel
theorem dJ6_bitCount_0f7a4_43 : decode cJ6_bitCount_0f7a4 43 = .ok (.bipush 16, 2) := by decide +kernel
theorem dJ6_bitCount_0f7a4_45 : decode cJ6_bitCount_0f7a4 45 = .ok (.iushr, 1) := by decide +kernel
theorem dJ6_bitCount_0f7a4_46 : decode cJ6_bitCount_0f7a4 46 = .ok (.iadd, 1) := by decide +kernel
theorem dJ6_bitCount_0f7a4_47 : decode cJ6_bitCount_0f7a4 47 = .ok (.istore_n 0, 1) := by decide +kernel
theorem dJ6_bitCount_0f7a4_48 : decode cJ6_bitCount_0f7a4 48 = .ok (.iload_n 0, 1) := by decide +kernel
theorem dJ6_bitCount_0f7a4_49 : decode cJ6_bitCount_0f7a4 49 = .ok (.bipush 63, 2) := by decide +kernel
theorem dJ6_bitCount_0f7a4_51 : decode cJ6_bitCount_0f7a4 51 = .ok (.iand, 1) := by decide +kernel
theorem dJ6_bitCount_0f7a4_52 : decode cJ6_bitCount_0f7a4 52 = .ok (.ireturn, 1) := by decide +kernel
theorem dJ9_max_7cf53_0 : decode cJ9_max_7cf53 0 = .ok (.iload_n 0, 1) := by decide +kernel
theorem dJ9_max_7cf53_1 : decode cJ9_max_7cf53 1 = .ok (.iload_n 1, 1) := by decide +kernel
theorem dJ9_max_7cf53_2 : decode cJ9_max_7cf53 2 = .ok (.if_icmp .lt 7, 3) := by decide +kernel
theorem dJ9_max_7cf53_5 : decode cJ9_max_7cf53 5 = .ok (.iload_n 0, 1) := by decide +kernel
theorem dJ9_max_7cf53_6 : decode cJ9_max_7cf53 6 = .ok (.goto 4, 3) := by decide +kernel
theorem dJ9_max_7cf53_9 : decode cJ9_max_7cf53 9 = .ok (.iload_n 1, 1) := by decide +kernel
theorem dJ9_max_7cf53_10 : decode cJ9_max_7cf53 10 = .ok (.ireturn, 1) := by decide +kernel
theorem dJ9_min_7cf53_0 : decode cJ9_min_7cf53 0 = .ok (.iload_n 0, 1) := by decide +kernel
theorem dJ9_min_7cf53_1 : decode cJ9_min_7cf53 1 = .ok (.iload_n 1, 1) := by decide +kernel
theorem dJ9_min_7cf53_2 : decode cJ9_min_7cf53 2 = .ok (.if_icmp .gt 7, 3) := by decide +kernel
theorem dJ9_min_7cf53_5 : decode cJ9_min_7cf53 5 = .ok (.iload_n 0, 1) := by decide +kernel
theorem dJ9_min_7cf53_6 : decode cJ9_min_7cf53 6 = .ok (.goto 4, 3) := by decide +kernel
theorem dJ9_min_7cf53_9 : decode cJ9_min_7cf53 9 = .ok (.iload_n 1, 1) := by decide +kernel
theorem dJ9_min_7cf53_10 : decode cJ9_min_7cf53 10 = .ok (.ireturn, 1) := by decide +kernel
theorem dJ0_length_8abf5_0 : decode cJ0_length_8abf5 0 = .ok (.aload_n 0, 1) := by decide +kernel
theorem dJ0_length_8abf5_1 : decode cJ0_length_8abf5 1 = .ok (.getfield 9, 3) := by decide +kernel
theorem dJ0_length_8abf5_4 : decode cJ0_length_8abf5 4 = .ok (.arraylength, 1) := by decide +kernel
theorem dJ0_length_8abf5_5 : decode cJ0_length_8abf5 5 = .ok (.aload_n 0, 1) := by decide +kernel
theorem dJ0_length_8abf5_6 : decode cJ0_length_8abf5 6 = .ok (.invokevirtual 335, 3) := by decide +kernel
theorem dJ0_length_8abf5_9 : decode cJ0_length_8abf5 9 = .ok (.ishr, 1) := by decide +kernel
theorem dJ0_length_8abf5_10 : decode cJ0_length_8abf5 10 = .ok (.ireturn, 1) := by decide +kernel
theorem dJ0_charAt_5068e_0 : decode cJ0_charAt_5068e 0 = .ok (.aload_n 0, 1) := by decide +kernel
theorem dJ0_charAt_5068e_1 : decode cJ0_charAt_5068e 1 = .ok (.invokevirtual 492, 3) := by decide +kernel
theorem dJ0_charAt_5068e_4 : decode cJ0_charAt_5068e 4 = .ok (.ifCond .eq 12, 3) := by decide +kernel
theorem dJ0_charAt_5068e_7 : decode cJ0_charAt_5068e 7 = .ok (.aload_n 0, 1) := by decide +kernel
theorem dJ0_charAt_5068e_8 : decode cJ0_charAt_5068e 8 = .ok (.getfield 9, 3) := by decide +kernel
theorem dJ0_charAt_5068e_11 : decode cJ0_charAt_5068e 11 = .ok (.iload_n 1, 1) := by decide +kernel
theorem dJ0_charAt_5068e_12 : decode cJ0_charAt_5068e 12 = .ok (.invokestatic 495, 3) := by decide +kernel
theorem dJ0_charAt_5068e_15 : decode cJ0_charAt_5068e 15 = .ok (.ireturn, 1) := by decide +kernel
theorem dJ0_charAt_5068e_16 : decode cJ0_charAt_5068e 16 = .ok (.aload_n 0, 1) := by decide +kernel
theorem dJ0_charAt_5068e_17 : decode cJ0_charAt_5068e 17 = .ok (.getfield 9, 3) := by decide +kernel
theorem dJ0_charAt_5068e_20 : decode cJ0_charAt_5068e 20 = .ok (.iload_n 1, 1) := by decide +kernel
theorem dJ0_charAt_5068e_21 : decode cJ0_charAt_5068e 21 = .ok (.invokestatic 498, 3) := by decide +kernel
theorem dJ0_charAt_5068e_24 : decode cJ0_charAt_5068e 24 = .ok (.ireturn, 1) := by decide +kernel
theorem dJ0_coder_7d493_0 : decode cJ0_coder_7d493 0 = .ok (.getstatic 38, 3) := by decide +kernel
theorem dJ0_coder_7d493_3 : decode cJ0_coder_7d493 3 = .ok (.ifCond .eq 10, 3) := by decide +kernel
theorem dJ0_coder_7d493_6 : decode cJ0_coder_7d493 6 = .ok (.aload_n 0, 1) := by decide +kernel
theorem dJ0_coder_7d493_7 : decode cJ0_coder_7d493 7 = .ok (.getfield 15, 3) := by decide +kernel
theorem dJ0_coder_7d493_10 : decode cJ0_coder_7d493 10 = .ok (.goto 4, 3) := by decide +kernel
theorem dJ0_coder_7d493_13 : decode cJ0_coder_7d493 13 = .ok (.iconst 1, 1) := by decide +kernel
theorem dJ0_coder_7d493_14 : decode cJ0_coder_7d493 14 = .ok (.ireturn, 1) := by decide +kernel
theorem dJ0_isLatin1_aae02_0 : decode cJ0_isLatin1_aae02 0 = .ok (.getstatic 38, 3) := by decide +kernel
theorem dJ0_isLatin1_aae02_3 : decode cJ0_isLatin1_aae02 3 = .ok (.ifCond .eq 14, 3) := by decide +kernel
theorem dJ0_isLatin1_aae02_6 : decode cJ0_isLatin1_aae02 6 = .ok (.aload_n 0, 1) := by decide +kernel
theorem dJ0_isLatin1_aae02_7 : decode cJ0_isLatin1_aae02 7 = .ok (.getfield 15, 3) := by decide +kernel
theorem dJ0_isLatin1_aae02_10 : decode cJ0_isLatin1_aae02 10 = .ok (.ifCond .ne 7, 3) := by decide +kernel
theorem dJ0_isLatin1_aae02_13 : decode cJ0_isLatin1_aae02 13 = .ok (.iconst 1, 1) := by decide +kernel
theorem dJ0_isLatin1_aae02_14 : decode cJ0_isLatin1_aae02 14 = .ok (.goto 4, 3) := by decide +kernel
theorem dJ0_isLatin1_aae02_17 : decode cJ0_isLatin1_aae02 17 = .ok (.iconst 0, 1) := by decide +kernel
theorem dJ0_isLatin1_aae02_18 : decode cJ0_isLatin1_aae02 18 = .ok (.ireturn, 1) := by decide +kernel
theorem dJ0_checkIndex_df160_0 : decode cJ0_checkIndex_df160 0 = .ok (.iload_n 0, 1) := by decide +kernel
theorem dJ0_checkIndex_df160_1 : decode cJ0_checkIndex_df160 1 = .ok (.iload_n 1, 1) := by decide +kernel
theorem dJ0_checkIndex_df160_2 : decode cJ0_checkIndex_df160 2 = .ok (.getstatic 1053, 3) := by decide +kernel
theorem dJ0_checkIndex_df160_5 : decode cJ0_checkIndex_df160 5 = .ok (.invokestatic 1059, 3) := by decide +kernel
theorem dJ0_checkIndex_df160_8 : decode cJ0_checkIndex_df160 8 = .ok (.pop, 1) := by decide +kernel
theorem dJ0_checkIndex_df160_9 : decode cJ0_checkIndex_df160 9 = .ok (.return_, 1) := by decide +kernel
theorem dJ1_charAt_3b067_0 : decode cJ1_charAt_3b067 0 = .ok (.iload_n 1, 1) := by decide +kernel
theorem dJ1_charAt_3b067_1 : decode cJ1_charAt_3b067 1 = .ok (.aload_n 0, 1) := by decide +kernel
theorem dJ1_charAt_3b067_2 : decode cJ1_charAt_3b067 2 = .ok (.arraylength, 1) := by decide +kernel
theorem dJ1_charAt_3b067_3 : decode cJ1_charAt_3b067 3 = .ok (.invokestatic 9, 3) := by decide +kernel
theorem dJ1_charAt_3b067_6 : decode cJ1_charAt_3b067 6 = .ok (.aload_n 0, 1) := by decide +kernel
theorem dJ1_charAt_3b067_7 : decode cJ1_charAt_3b067 7 = .ok (.iload_n 1, 1) := by decide +kernel
theorem dJ1_charAt_3b067_8 : decode cJ1_charAt_3b067 8 = .ok (.baload, 1) := by decide +kernel
theorem dJ1_charAt_3b067_9 : decode cJ1_charAt_3b067 9 = .ok (.sipush 255, 3) := by decide +kernel
theorem dJ1_charAt_3b067_12 : decode cJ1_charAt_3b067 12 = .ok (.iand, 1) := by decide +kernel
theorem dJ1_charAt_3b067_13 : decode cJ1_charAt_3b067 13 = .ok (.i2c, 1) := by decide +kernel
theorem dJ1_charAt_3b067_14 : decode cJ1_charAt_3b067 14 = .ok (.ireturn, 1) := by decide +kernel
theorem dJ2_getChar_3b067_0 : decode cJ2_getChar_3b067 0 = .ok (.getstatic 44, 3) := by decide +kernel
theorem dJ2_getChar_3b067_3 : decode cJ2_getChar_3b067 3 = .ok (.ifCond .ne 25, 3) := by decide +kernel
theorem dJ2_getChar_3b067_6 : decode cJ2_getChar_3b067 6 = .ok (.iload_n 1, 1) := by decide +kernel
theorem dJ2_getChar_3b067_7 : decode cJ2_getChar_3b067 7 = .ok (.ifCond .lt 11, 3) := by decide +kernel
theorem dJ2_getChar_3b067_10 : decode cJ2_getChar_3b067 10 = .ok (.iload_n 1, 1) := by decide +kernel
theorem dJ2_getChar_3b067_11 : decode cJ2_getChar_3b067 11 = .ok (.aload_n 0, 1) := by decide +kernel
theorem dJ2_getChar_3b067_12 : decode cJ2_getChar_3b067 12 = .ok (.invokestatic 48, 3) := by decide +kernel
theorem dJ2_getChar_3b067_15 : decode cJ2_getChar_3b067 15 = .ok (.if_icmp .lt 13, 3) := by decide +kernel
theorem dJ2_getChar_3b067_18 : decode cJ2_getChar_3b067 18 = .ok (.new 52, 3) := by decide +kernel
theorem dJ2_getChar_3b067_21 : decode cJ2_getChar_3b067 21 = .ok (.dup, 1) := by decide +kernel
theorem dJ2_getChar_3b067_22 : decode cJ2_getChar_3b067 22 = .ok (.ldc 54, 2) := by decide +kernel
theorem dJ2_getChar_3b067_24 : decode cJ2_getChar_3b067 24 = .ok (.invokespecial 56, 3) := by decide +kernel
theorem dJ2_getChar_3b067_27 : decode cJ2_getChar_3b067 27 = .ok (.athrow, 1) := by decide +kernel
theorem dJ2_getChar_3b067_28 : decode cJ2_getChar_3b067 28 = .ok (.iload_n 1, 1) := by decide +kernel
theorem dJ2_getChar_3b067_29 : decode cJ2_getChar_3b067 29 = .ok (.iconst 1, 1) := by decide +kernel
theorem dJ2_getChar_3b067_30 : decode cJ2_getChar_3b067 30 = .ok (.ishl, 1) := by decide +kernel
theorem dJ2_getChar_3b067_31 : decode cJ2_getChar_3b067 31 = .ok (.istore_n 1, 1) := by decide +kernel
theorem dJ2_getChar_3b067_32 : decode cJ2_getChar_3b067 32 = .ok (.aload_n 0, 1) := by decide +kernel
theorem dJ2_getChar_3b067_33 : decode cJ2_getChar_3b067 33 = .ok (.iload_n 1, 1) := by decide +kernel
theorem dJ2_getChar_3b067_34 : decode cJ2_getChar_3b067 34 = .ok (.iinc 1 1, 3) := by decide +kernel
theorem dJ2_getChar_3b067_37 : decode cJ2_getChar_3b067 37 = .ok (.baload, 1) := by decide +kernel
theorem dJ2_getChar_3b067_38 : decode cJ2_getChar_3b067 38 = .ok (.sipush 255, 3) := by decide +kernel
theorem dJ2_getChar_3b067_41 : decode cJ2_getChar_3b067 41 = .ok (.iand, 1) := by decide +kernel
theorem dJ2_getChar_3b067_42 : decode cJ2_getChar_3b067 42 = .ok (.getstatic 59, 3) := by decide +kernel
theorem dJ2_getChar_3b067_45 : decode cJ2_getChar_3b067 45 = .ok (.ishl, 1) := by decide +kernel
theorem dJ2_getChar_3b067_46 : decode cJ2_getChar_3b067 46 = .ok (.aload_n 0, 1) := by decide +kernel
theorem dJ2_getChar_3b067_47 : decode cJ2_getChar_3b067 47 = .ok (.iload_n 1, 1) := by decide +kernel
theorem dJ2_getChar_3b067_48 : decode cJ2_getChar_3b067 48 = .ok (.baload, 1) := by decide +kernel
theorem dJ2_getChar_3b067_49 : decode cJ2_getChar_3b067 49 = .ok (.sipush 255, 3) := by decide +kernel
theorem dJ2_getChar_3b067_52 : decode cJ2_getChar_3b067 52 = .ok (.iand, 1) := by decide +kernel
theorem dJ2_getChar_3b067_53 : decode cJ2_getChar_3b067 53 = .ok (.getstatic 63, 3) := by decide +kernel
theorem dJ2_getChar_3b067_56 : decode cJ2_getChar_3b067 56 = .ok (.ishl, 1) := by decide +kernel
theorem dJ2_getChar_3b067_57 : decode cJ2_getChar_3b067 57 = .ok (.ior, 1) := by decide +kernel
theorem dJ2_getChar_3b067_58 : decode cJ2_getChar_3b067 58 = .ok (.i2c, 1) := by decide +kernel
theorem dJ2_getChar_3b067_59 : decode cJ2_getChar_3b067 59 = .ok (.ireturn, 1) := by decide +kernel
theorem dJ2_length_9d52b_0 : decode cJ2_length_9d52b 0 = .ok (.aload_n 0, 1) := by decide +kernel
theorem dJ2_length_9d52b_1 : decode cJ2_length_9d52b 1 = .ok (.arraylength, 1) := by decide +kernel
theorem dJ2_length_9d52b_2 : decode cJ2_length_9d52b 2 = .ok (.iconst 1, 1) := by decide +kernel
theorem dJ2_length_9d52b_3 : decode cJ2_length_9d52b 3 = .ok (.ishr, 1) := by decide +kernel
theorem dJ2_length_9d52b_4 : decode cJ2_length_9d52b 4 = .ok (.ireturn, 1) := by decide +kernel
theorem dJ2_charAt_3b067_0 : decode cJ2_charAt_3b067 0 = .ok (.iload_n 1, 1) := by decide +kernel
theorem dJ2_charAt_3b067_1 : decode cJ2_charAt_3b067 1 = .ok (.aload_n 0, 1) := by decide +kernel
theorem dJ2_charAt_3b067_2 : decode cJ2_charAt_3b067 2 = .ok (.invokestatic 67, 3) := by decide +kernel
theorem dJ2_charAt_3b067_5 : decode cJ2_charAt_3b067 5 = .ok (.aload_n 0, 1) := by decide +kernel
theorem dJ2_charAt_3b067_6 : decode cJ2_charAt_3b067 6 = .ok (.iload_n 1, 1) := by decide +kernel
theorem dJ2_charAt_3b067_7 : decode cJ2_charAt_3b067 7 = .ok (.invokestatic 71, 3) := by decide +kernel
theorem dJ2_charAt_3b067_10 : decode cJ2_charAt_3b067 10 = .ok (.ireturn, 1) := by decide +kernel
theorem dJ2_checkIndex_2214a_0 : decode cJ2_checkIndex_2214a 0 = .ok (.iload_n 0, 1) := by decide +kernel
theorem dJ2_checkIndex_2214a_1 : decode cJ2_checkIndex_2214a 1 = .ok (.aload_n 1, 1) := by decide +kernel
theorem dJ2_checkIndex_2214a_2 : decode cJ2_checkIndex_2214a 2 = .ok (.invokestatic 48, 3) := by decide +kernel
theorem dJ2_checkIndex_2214a_5 : decode cJ2_checkIndex_2214a 5 = .ok (.invokestatic 414, 3) := by decide +kernel
theorem dJ2_checkIndex_2214a_8 : decode cJ2_checkIndex_2214a 8 = .ok (.return_, 1) := by decide +kernel
theorem dJ3_checkIndex_8e157_0 : decode cJ3_checkIndex_8e157 0 = .ok (.iload_n 0, 1) := by decide +kernel
theorem dJ3_checkIndex_8e157_1 : decode cJ3_checkIndex_8e157 1 = .ok (.ifCond .lt 8, 3) := by decide +kernel
theorem dJ3_checkIndex_8e157_4 : decode cJ3_checkIndex_8e157 4 = .ok (.iload_n 0, 1) := by decide +kernel
theorem dJ3_checkIndex_8e157_5 : decode cJ3_checkIndex_8e157 5 = .ok (.iload_n 1, 1) := by decide +kernel
theorem dJ3_checkIndex_8e157_6 : decode cJ3_checkIndex_8e157 6 = .ok (.if_icmp .lt 10, 3) := by decide +kernel
theorem dJ3_checkIndex_8e157_9 : decode cJ3_checkIndex_8e157 9 = .ok (.aload_n 2, 1) := by decide +kernel
theorem dJ3_checkIndex_8e157_10 : decode cJ3_checkIndex_8e157 10 = .ok (.iload_n 0, 1) := by decide +kernel
theorem dJ3_checkIndex_8e157_11 : decode cJ3_checkIndex_8e157 11 = .ok (.iload_n 1, 1) := by decide +kernel
theorem dJ3_checkIndex_8e157_12 : decode cJ3_checkIndex_8e157 12 = .ok (.invokestatic 95, 3) := by decide +kernel
theorem dJ3_checkIndex_8e157_15 : decode cJ3_checkIndex_8e157 15 = .ok (.athrow, 1) := by decide +kernel
theorem dJ3_checkIndex_8e157_16 : decode cJ3_checkIndex_8e157 16 = .ok (.iload_n 0, 1) := by decide +kernel
theorem dJ3_checkIndex_8e157_17 : decode cJ3_checkIndex_8e157 17 = .ok (.ireturn, 1) := by decide +kernel
