theorem dX0_init_0 : decode cX0_init 0 = .ok (.aload_n 0, 1) := by decide +kernel
theorem dX0_init_1 : decode cX0_init 1 = .ok (.invokespecial 3, 3) := by decide +kernel
theorem dX0_init_4 : decode cX0_init 4 = .ok (.aload_n 0, 1) := by decide +kernel
theorem dX0_init_5 : decode cX0_init 5 = .ok (.bipush 16, 2) := by decide +kernel
theorem dX0_init_7 : decode cX0_init 7 = .ok (.newarray .long, 2) := by decide +kernel
theorem dX0_init_9 : decode cX0_init 9 = .ok (.putfield 9, 3) := by decide +kernel
theorem dX0_init_12 : decode cX0_init 12 = .ok (.aload_n 0, 1) := by decide +kernel
theorem dX0_init_13 : decode cX0_init 13 = .ok (.bipush 60, 2) := by decide +kernel
theorem dX0_init_15 : decode cX0_init 15 = .ok (.newarray .long, 2) := by decide +kernel
theorem dX0_init_17 : decode cX0_init 17 = .ok (.putfield 15, 3) := by decide +kernel
theorem dX0_init_20 : decode cX0_init 20 = .ok (.aload_n 0, 1) := by decide +kernel
theorem dX0_init_21 : decode cX0_init 21 = .ok (.bipush 20, 2) := by decide +kernel
theorem dX0_init_23 : decode cX0_init 23 = .ok (.newarray .long, 2) := by decide +kernel
theorem dX0_init_25 : decode cX0_init 25 = .ok (.putfield 18, 3) := by decide +kernel
theorem dX0_init_28 : decode cX0_init 28 = .ok (.aload_n 0, 1) := by decide +kernel
theorem dX0_init_29 : decode cX0_init 29 = .ok (.iconst 4, 1) := by decide +kernel
theorem dX0_init_30 : decode cX0_init 30 = .ok (.newarray .long, 2) := by decide +kernel
theorem dX0_init_32 : decode cX0_init 32 = .ok (.putfield 21, 3) := by decide +kernel
theorem dX0_init_35 : decode cX0_init 35 = .ok (.aload_n 0, 1) := by decide +kernel
theorem dX0_init_36 : decode cX0_init 36 = .ok (.iconst 4, 1) := by decide +kernel
theorem dX0_init_37 : decode cX0_init 37 = .ok (.newarray .long, 2) := by decide +kernel
theorem dX0_init_39 : decode cX0_init 39 = .ok (.putfield 24, 3) := by decide +kernel
theorem dX0_init_42 : decode cX0_init 42 = .ok (.aload_n 0, 1) := by decide +kernel
theorem dX0_init_43 : decode cX0_init 43 = .ok (.aload_n 1, 1) := by decide +kernel
theorem dX0_init_44 : decode cX0_init 44 = .ok (.putfield 27, 3) := by decide +kernel
theorem dX0_init_47 : decode cX0_init 47 = .ok (.return_, 1) := by decide +kernel
theorem dX0_owedInParts_0 : decode cX0_owedInParts 0 = .ok (.aload_n 0, 1) := by decide +kernel
theorem dX0_owedInParts_1 : decode cX0_owedInParts 1 = .ok (.getfield 18, 3) := by decide +kernel
theorem dX0_owedInParts_4 : decode cX0_owedInParts 4 = .ok (.iconst 4, 1) := by decide +kernel
theorem dX0_owedInParts_5 : decode cX0_owedInParts 5 = .ok (.iload_n 2, 1) := by decide +kernel
theorem dX0_owedInParts_6 : decode cX0_owedInParts 6 = .ok (.imul, 1) := by decide +kernel
theorem dX0_owedInParts_7 : decode cX0_owedInParts 7 = .ok (.iload_n 1, 1) := by decide +kernel
theorem dX0_owedInParts_8 : decode cX0_owedInParts 8 = .ok (.iadd, 1) := by decide +kernel
theorem dX0_owedInParts_9 : decode cX0_owedInParts 9 = .ok (.laload, 1) := by decide +kernel
theorem dX0_owedInParts_10 : decode cX0_owedInParts 10 = .ok (.getstatic 31, 3) := by decide +kernel
theorem dX0_owedInParts_13 : decode cX0_owedInParts 13 = .ok (.aload_n 0, 1) := by decide +kernel
theorem dX0_owedInParts_14 : decode cX0_owedInParts 14 = .ok (.getfield 27, 3) := by decide +kernel
theorem dX0_owedInParts_17 : decode cX0_owedInParts 17 = .ok (.getfield 34, 3) := by decide +kernel
theorem dX0_owedInParts_20 : decode cX0_owedInParts 20 = .ok (.iload_n 2, 1) := by decide +kernel
theorem dX0_owedInParts_21 : decode cX0_owedInParts 21 = .ok (.isub, 1) := by decide +kernel
theorem dX0_owedInParts_22 : decode cX0_owedInParts 22 = .ok (.laload, 1) := by decide +kernel
theorem dX0_owedInParts_23 : decode cX0_owedInParts 23 = .ok (.lmul, 1) := by decide +kernel
theorem dX0_owedInParts_24 : decode cX0_owedInParts 24 = .ok (.lreturn, 1) := by decide +kernel
theorem dX0_owedWhole_0 : decode cX0_owedWhole 0 = .ok (.getstatic 31, 3) := by decide +kernel
theorem dX0_owedWhole_3 : decode cX0_owedWhole 3 = .ok (.aload_n 0, 1) := by decide +kernel
theorem dX0_owedWhole_4 : decode cX0_owedWhole 4 = .ok (.getfield 27, 3) := by decide +kernel
theorem dX0_owedWhole_7 : decode cX0_owedWhole 7 = .ok (.getfield 34, 3) := by decide +kernel
theorem dX0_owedWhole_10 : decode cX0_owedWhole 10 = .ok (.laload, 1) := by decide +kernel
theorem dX0_owedWhole_11 : decode cX0_owedWhole 11 = .ok (.lreturn, 1) := by decide +kernel
theorem dX0_costWhole_0 : decode cX0_costWhole 0 = .ok (.getstatic 40, 3) := by decide +kernel
theorem dX0_costWhole_3 : decode cX0_costWhole 3 = .ok (.aload_n 0, 1) := by decide +kernel
theorem dX0_costWhole_4 : decode cX0_costWhole 4 = .ok (.getfield 27, 3) := by decide +kernel
theorem dX0_costWhole_7 : decode cX0_costWhole 7 = .ok (.getfield 34, 3) := by decide +kernel
theorem dX0_costWhole_10 : decode cX0_costWhole 10 = .ok (.laload, 1) := by decide +kernel
theorem dX0_costWhole_11 : decode cX0_costWhole 11 = .ok (.lreturn, 1) := by decide +kernel
theorem dX0_costOf_0 : decode cX0_costOf 0 = .ok (.aload_n 0, 1) := by decide +kernel
theorem dX0_costOf_1 : decode cX0_costOf 1 = .ok (.getfield 27, 3) := by decide +kernel
theorem dX0_costOf_4 : decode cX0_costOf 4 = .ok (.getfield 43, 3) := by decide +kernel
theorem dX0_costOf_7 : decode cX0_costOf 7 = .ok (.iconst 4, 1) := by decide +kernel
theorem dX0_costOf_8 : decode cX0_costOf 8 = .ok (.iload_n 1, 1) := by decide +kernel
theorem dX0_costOf_9 : decode cX0_costOf 9 = .ok (.imul, 1) := by decide +kernel
theorem dX0_costOf_10 : decode cX0_costOf 10 = .ok (.iconst 3, 1) := by decide +kernel
theorem dX0_costOf_11 : decode cX0_costOf 11 = .ok (.iadd, 1) := by decide +kernel
theorem dX0_costOf_12 : decode cX0_costOf 12 = .ok (.iaload, 1) := by decide +kernel
theorem dX0_costOf_13 : decode cX0_costOf 13 = .ok (.i2l, 1) := by decide +kernel
theorem dX0_costOf_14 : decode cX0_costOf 14 = .ok (.aload_n 0, 1) := by decide +kernel
theorem dX0_costOf_15 : decode cX0_costOf 15 = .ok (.getfield 24, 3) := by decide +kernel
theorem dX0_costOf_18 : decode cX0_costOf 18 = .ok (.iload_n 1, 1) := by decide +kernel
theorem dX0_costOf_19 : decode cX0_costOf 19 = .ok (.laload, 1) := by decide +kernel
theorem dX0_costOf_20 : decode cX0_costOf 20 = .ok (.lmul, 1) := by decide +kernel
theorem dX0_costOf_21 : decode cX0_costOf 21 = .ok (.aload_n 0, 1) := by decide +kernel
theorem dX0_costOf_22 : decode cX0_costOf 22 = .ok (.getfield 27, 3) := by decide +kernel
theorem dX0_costOf_25 : decode cX0_costOf 25 = .ok (.iload_n 1, 1) := by decide +kernel
theorem dX0_costOf_26 : decode cX0_costOf 26 = .ok (.invokevirtual 47, 3) := by decide +kernel
theorem dX0_costOf_29 : decode cX0_costOf 29 = .ok (.i2l, 1) := by decide +kernel
theorem dX0_costOf_30 : decode cX0_costOf 30 = .ok (.aload_n 0, 1) := by decide +kernel
theorem dX0_costOf_31 : decode cX0_costOf 31 = .ok (.invokevirtual 51, 3) := by decide +kernel
theorem dX0_costOf_34 : decode cX0_costOf 34 = .ok (.lmul, 1) := by decide +kernel
theorem dX0_costOf_35 : decode cX0_costOf 35 = .ok (.ladd, 1) := by decide +kernel
theorem dX0_costOf_36 : decode cX0_costOf 36 = .ok (.lreturn, 1) := by decide +kernel
theorem dX0_owedFrom_0 : decode cX0_owedFrom 0 = .ok (.aload_n 0, 1) := by decide +kernel
theorem dX0_owedFrom_1 : decode cX0_owedFrom 1 = .ok (.getfield 27, 3) := by decide +kernel
theorem dX0_owedFrom_4 : decode cX0_owedFrom 4 = .ok (.iload_n 1, 1) := by decide +kernel
theorem dX0_owedFrom_5 : decode cX0_owedFrom 5 = .ok (.putfield 55, 3) := by decide +kernel
theorem dX0_owedFrom_8 : decode cX0_owedFrom 8 = .ok (.aload_n 0, 1) := by decide +kernel
theorem dX0_owedFrom_9 : decode cX0_owedFrom 9 = .ok (.invokevirtual 58, 3) := by decide +kernel
theorem dX0_owedFrom_12 : decode cX0_owedFrom 12 = .ok (.aload_n 0, 1) := by decide +kernel
theorem dX0_owedFrom_13 : decode cX0_owedFrom 13 = .ok (.getfield 18, 3) := by decide +kernel
theorem dX0_owedFrom_16 : decode cX0_owedFrom 16 = .ok (.iconst 4, 1) := by decide +kernel
theorem dX0_owedFrom_17 : decode cX0_owedFrom 17 = .ok (.aload_n 0, 1) := by decide +kernel
theorem dX0_owedFrom_18 : decode cX0_owedFrom 18 = .ok (.getfield 27, 3) := by decide +kernel
theorem dX0_owedFrom_21 : decode cX0_owedFrom 21 = .ok (.getfield 34, 3) := by decide +kernel
theorem dX0_owedFrom_24 : decode cX0_owedFrom 24 = .ok (.imul, 1) := by decide +kernel
theorem dX0_owedFrom_25 : decode cX0_owedFrom 25 = .ok (.iload_n 2, 1) := by decide +kernel
theorem dX0_owedFrom_26 : decode cX0_owedFrom 26 = .ok (.iadd, 1) := by decide +kernel
theorem dX0_owedFrom_27 : decode cX0_owedFrom 27 = .ok (.laload, 1) := by decide +kernel
theorem dX0_owedFrom_28 : decode cX0_owedFrom 28 = .ok (.lreturn, 1) := by decide +kernel
theorem dX0_play_0 : decode cX0_play 0 = .ok (.aload_n 0, 1) := by decide +kernel
theorem dX0_play_1 : decode cX0_play 1 = .ok (.invokevirtual 61, 3) := by decide +kernel
theorem dX0_play_4 : decode cX0_play 4 = .ok (.iconst 0, 1) := by decide +kernel
theorem dX0_play_5 : decode cX0_play 5 = .ok (.istore_n 1, 1) := by decide +kernel
theorem dX0_play_6 : decode cX0_play 6 = .ok (.iload_n 1, 1) := by decide +kernel
theorem dX0_play_7 : decode cX0_play 7 = .ok (.aload_n 0, 1) := by decide +kernel
theorem dX0_play_8 : decode cX0_play 8 = .ok (.getfield 27, 3) := by decide +kernel
theorem dX0_play_11 : decode cX0_play 11 = .ok (.getfield 34, 3) := by decide +kernel
theorem dX0_play_14 : decode cX0_play 14 = .ok (.if_icmp .ge 33, 3) := by decide +kernel
theorem dX0_play_17 : decode cX0_play 17 = .ok (.aload_n 0, 1) := by decide +kernel
theorem dX0_play_18 : decode cX0_play 18 = .ok (.iload_n 1, 1) := by decide +kernel
theorem dX0_play_19 : decode cX0_play 19 = .ok (.invokevirtual 64, 3) := by decide +kernel
theorem dX0_play_22 : decode cX0_play 22 = .ok (.aload_n 0, 1) := by decide +kernel
theorem dX0_play_23 : decode cX0_play 23 = .ok (.iconst 3, 1) := by decide +kernel
theorem dX0_play_24 : decode cX0_play 24 = .ok (.iload_n 1, 1) := by decide +kernel
theorem dX0_play_25 : decode cX0_play 25 = .ok (.imul, 1) := by decide +kernel
theorem dX0_play_26 : decode cX0_play 26 = .ok (.iconst 0, 1) := by decide +kernel
theorem dX0_play_27 : decode cX0_play 27 = .ok (.iadd, 1) := by decide +kernel
theorem dX0_play_28 : decode cX0_play 28 = .ok (.invokevirtual 68, 3) := by decide +kernel
theorem dX0_play_31 : decode cX0_play 31 = .ok (.aload_n 0, 1) := by decide +kernel
theorem dX0_play_32 : decode cX0_play 32 = .ok (.iload_n 1, 1) := by decide +kernel
theorem dX0_play_33 : decode cX0_play 33 = .ok (.iconst 3, 1) := by decide +kernel
theorem dX0_play_34 : decode cX0_play 34 = .ok (.iload_n 1, 1) := by decide +kernel
theorem dX0_play_35 : decode cX0_play 35 = .ok (.imul, 1) := by decide +kernel
theorem dX0_play_36 : decode cX0_play 36 = .ok (.iconst 0, 1) := by decide +kernel
theorem dX0_play_37 : decode cX0_play 37 = .ok (.iadd, 1) := by decide +kernel
theorem dX0_play_38 : decode cX0_play 38 = .ok (.invokevirtual 71, 3) := by decide +kernel
theorem dX0_play_41 : decode cX0_play 41 = .ok (.iinc 1 1, 3) := by decide +kernel
theorem dX0_play_44 : decode cX0_play 44 = .ok (.goto (-38), 3) := by decide +kernel
theorem dX0_play_47 : decode cX0_play 47 = .ok (.aload_n 0, 1) := by decide +kernel
theorem dX0_play_48 : decode cX0_play 48 = .ok (.invokevirtual 75, 3) := by decide +kernel
theorem dX0_play_51 : decode cX0_play 51 = .ok (.return_, 1) := by decide +kernel
theorem dX0_weighChoices_0 : decode cX0_weighChoices 0 = .ok (.iconst 0, 1) := by decide +kernel
theorem dX0_weighChoices_1 : decode cX0_weighChoices 1 = .ok (.istore_n 2, 1) := by decide +kernel
theorem dX0_weighChoices_2 : decode cX0_weighChoices 2 = .ok (.iload_n 2, 1) := by decide +kernel
theorem dX0_weighChoices_3 : decode cX0_weighChoices 3 = .ok (.iconst 2, 1) := by decide +kernel
theorem dX0_weighChoices_4 : decode cX0_weighChoices 4 = .ok (.if_icmp .gt 81, 3) := by decide +kernel
theorem dX0_weighChoices_7 : decode cX0_weighChoices 7 = .ok (.aload_n 0, 1) := by decide +kernel
theorem dX0_weighChoices_8 : decode cX0_weighChoices 8 = .ok (.getfield 27, 3) := by decide +kernel
theorem dX0_weighChoices_11 : decode cX0_weighChoices 11 = .ok (.getfield 78, 3) := by decide +kernel
theorem dX0_weighChoices_14 : decode cX0_weighChoices 14 = .ok (.iload_n 1, 1) := by decide +kernel
theorem dX0_weighChoices_15 : decode cX0_weighChoices 15 = .ok (.iload_n 2, 1) := by decide +kernel
theorem dX0_weighChoices_16 : decode cX0_weighChoices 16 = .ok (.iconst 1, 1) := by decide +kernel
theorem dX0_weighChoices_17 : decode cX0_weighChoices 17 = .ok (.if_icmp .ne 8, 3) := by decide +kernel
theorem dX0_weighChoices_20 : decode cX0_weighChoices 20 = .ok (.bipush 15, 2) := by decide +kernel
theorem dX0_weighChoices_22 : decode cX0_weighChoices 22 = .ok (.goto 4, 3) := by decide +kernel
theorem dX0_weighChoices_25 : decode cX0_weighChoices 25 = .ok (.iconst 0, 1) := by decide +kernel
theorem dX0_weighChoices_26 : decode cX0_weighChoices 26 = .ok (.iastore, 1) := by decide +kernel
theorem dX0_weighChoices_27 : decode cX0_weighChoices 27 = .ok (.aload_n 0, 1) := by decide +kernel
theorem dX0_weighChoices_28 : decode cX0_weighChoices 28 = .ok (.getfield 27, 3) := by decide +kernel
theorem dX0_weighChoices_31 : decode cX0_weighChoices 31 = .ok (.getfield 81, 3) := by decide +kernel
theorem dX0_weighChoices_34 : decode cX0_weighChoices 34 = .ok (.iload_n 1, 1) := by decide +kernel
theorem dX0_weighChoices_35 : decode cX0_weighChoices 35 = .ok (.iload_n 2, 1) := by decide +kernel
theorem dX0_weighChoices_36 : decode cX0_weighChoices 36 = .ok (.iconst 2, 1) := by decide +kernel
theorem dX0_weighChoices_37 : decode cX0_weighChoices 37 = .ok (.if_icmp .ne 7, 3) := by decide +kernel
theorem dX0_weighChoices_40 : decode cX0_weighChoices 40 = .ok (.iconst 0, 1) := by decide +kernel
theorem dX0_weighChoices_41 : decode cX0_weighChoices 41 = .ok (.goto 4, 3) := by decide +kernel
theorem dX0_weighChoices_44 : decode cX0_weighChoices 44 = .ok (.iconst 4, 1) := by decide +kernel
theorem dX0_weighChoices_45 : decode cX0_weighChoices 45 = .ok (.iastore, 1) := by decide +kernel
theorem dX0_weighChoices_46 : decode cX0_weighChoices 46 = .ok (.iconst 0, 1) := by decide +kernel
theorem dX0_weighChoices_47 : decode cX0_weighChoices 47 = .ok (.istore_n 3, 1) := by decide +kernel
theorem dX0_weighChoices_48 : decode cX0_weighChoices 48 = .ok (.iload_n 3, 1) := by decide +kernel
theorem dX0_weighChoices_49 : decode cX0_weighChoices 49 = .ok (.aload_n 0, 1) := by decide +kernel
theorem dX0_weighChoices_50 : decode cX0_weighChoices 50 = .ok (.getfield 27, 3) := by decide +kernel
theorem dX0_weighChoices_53 : decode cX0_weighChoices 53 = .ok (.getfield 34, 3) := by decide +kernel
theorem dX0_weighChoices_56 : decode cX0_weighChoices 56 = .ok (.if_icmp .ge 23, 3) := by decide +kernel
theorem dX0_weighChoices_59 : decode cX0_weighChoices 59 = .ok (.aload_n 0, 1) := by decide +kernel
theorem dX0_weighChoices_60 : decode cX0_weighChoices 60 = .ok (.iload_n 3, 1) := by decide +kernel
theorem dX0_weighChoices_61 : decode cX0_weighChoices 61 = .ok (.invokevirtual 64, 3) := by decide +kernel
theorem dX0_weighChoices_64 : decode cX0_weighChoices 64 = .ok (.aload_n 0, 1) := by decide +kernel
theorem dX0_weighChoices_65 : decode cX0_weighChoices 65 = .ok (.iconst 3, 1) := by decide +kernel
theorem dX0_weighChoices_66 : decode cX0_weighChoices 66 = .ok (.iload_n 3, 1) := by decide +kernel
theorem dX0_weighChoices_67 : decode cX0_weighChoices 67 = .ok (.imul, 1) := by decide +kernel
theorem dX0_weighChoices_68 : decode cX0_weighChoices 68 = .ok (.iload_n 2, 1) := by decide +kernel
theorem dX0_weighChoices_69 : decode cX0_weighChoices 69 = .ok (.iadd, 1) := by decide +kernel
theorem dX0_weighChoices_70 : decode cX0_weighChoices 70 = .ok (.invokevirtual 68, 3) := by decide +kernel
theorem dX0_weighChoices_73 : decode cX0_weighChoices 73 = .ok (.iinc 3 1, 3) := by decide +kernel
theorem dX0_weighChoices_76 : decode cX0_weighChoices 76 = .ok (.goto (-28), 3) := by decide +kernel
theorem dX0_weighChoices_79 : decode cX0_weighChoices 79 = .ok (.iinc 2 1, 3) := by decide +kernel
theorem dX0_weighChoices_82 : decode cX0_weighChoices 82 = .ok (.goto (-80), 3) := by decide +kernel
theorem dX0_weighChoices_85 : decode cX0_weighChoices 85 = .ok (.return_, 1) := by decide +kernel
theorem dX0_replay_0 : decode cX0_replay 0 = .ok (.aload_n 0, 1) := by decide +kernel
theorem dX0_replay_1 : decode cX0_replay 1 = .ok (.invokevirtual 61, 3) := by decide +kernel
theorem dX0_replay_4 : decode cX0_replay 4 = .ok (.iconst 0, 1) := by decide +kernel
theorem dX0_replay_5 : decode cX0_replay 5 = .ok (.istore_n 2, 1) := by decide +kernel
theorem dX0_replay_6 : decode cX0_replay 6 = .ok (.iload_n 2, 1) := by decide +kernel
theorem dX0_replay_7 : decode cX0_replay 7 = .ok (.aload_n 0, 1) := by decide +kernel
theorem dX0_replay_8 : decode cX0_replay 8 = .ok (.getfield 27, 3) := by decide +kernel
theorem dX0_replay_11 : decode cX0_replay 11 = .ok (.getfield 34, 3) := by decide +kernel
theorem dX0_replay_14 : decode cX0_replay 14 = .ok (.if_icmp .ge 57, 3) := by decide +kernel
theorem dX0_replay_17 : decode cX0_replay 17 = .ok (.aload_n 0, 1) := by decide +kernel
theorem dX0_replay_18 : decode cX0_replay 18 = .ok (.getfield 27, 3) := by decide +kernel
theorem dX0_replay_21 : decode cX0_replay 21 = .ok (.getfield 78, 3) := by decide +kernel
theorem dX0_replay_24 : decode cX0_replay 24 = .ok (.iload_n 1, 1) := by decide +kernel
theorem dX0_replay_25 : decode cX0_replay 25 = .ok (.iaload, 1) := by decide +kernel
theorem dX0_replay_26 : decode cX0_replay 26 = .ok (.iload_n 2, 1) := by decide +kernel
theorem dX0_replay_27 : decode cX0_replay 27 = .ok (.invokestatic 84, 3) := by decide +kernel
theorem dX0_replay_30 : decode cX0_replay 30 = .ok (.ifCond .eq 7, 3) := by decide +kernel
theorem dX0_replay_33 : decode cX0_replay 33 = .ok (.iconst 1, 1) := by decide +kernel
theorem dX0_replay_34 : decode cX0_replay 34 = .ok (.goto 4, 3) := by decide +kernel
theorem dX0_replay_37 : decode cX0_replay 37 = .ok (.iconst 0, 1) := by decide +kernel
theorem dX0_replay_38 : decode cX0_replay 38 = .ok (.istore_n 3, 1) := by decide +kernel
theorem dX0_replay_39 : decode cX0_replay 39 = .ok (.aload_n 0, 1) := by decide +kernel
theorem dX0_replay_40 : decode cX0_replay 40 = .ok (.iload_n 2, 1) := by decide +kernel
theorem dX0_replay_41 : decode cX0_replay 41 = .ok (.iconst 3, 1) := by decide +kernel
theorem dX0_replay_42 : decode cX0_replay 42 = .ok (.iload_n 2, 1) := by decide +kernel
theorem dX0_replay_43 : decode cX0_replay 43 = .ok (.imul, 1) := by decide +kernel
theorem dX0_replay_44 : decode cX0_replay 44 = .ok (.aload_n 0, 1) := by decide +kernel
theorem dX0_replay_45 : decode cX0_replay 45 = .ok (.getfield 27, 3) := by decide +kernel
theorem dX0_replay_48 : decode cX0_replay 48 = .ok (.iload_n 1, 1) := by decide +kernel
theorem dX0_replay_49 : decode cX0_replay 49 = .ok (.iload_n 2, 1) := by decide +kernel
theorem dX0_replay_50 : decode cX0_replay 50 = .ok (.invokevirtual 88, 3) := by decide +kernel
theorem dX0_replay_53 : decode cX0_replay 53 = .ok (.ifCond .eq 7, 3) := by decide +kernel
theorem dX0_replay_56 : decode cX0_replay 56 = .ok (.iload_n 3, 1) := by decide +kernel
theorem dX0_replay_57 : decode cX0_replay 57 = .ok (.goto 4, 3) := by decide +kernel
theorem dX0_replay_60 : decode cX0_replay 60 = .ok (.iconst 2, 1) := by decide +kernel
theorem dX0_replay_61 : decode cX0_replay 61 = .ok (.iadd, 1) := by decide +kernel
theorem dX0_replay_62 : decode cX0_replay 62 = .ok (.invokevirtual 71, 3) := by decide +kernel
theorem dX0_replay_65 : decode cX0_replay 65 = .ok (.iinc 2 1, 3) := by decide +kernel
theorem dX0_replay_68 : decode cX0_replay 68 = .ok (.goto (-62), 3) := by decide +kernel
theorem dX0_replay_71 : decode cX0_replay 71 = .ok (.aload_n 0, 1) := by decide +kernel
theorem dX0_replay_72 : decode cX0_replay 72 = .ok (.invokevirtual 75, 3) := by decide +kernel
theorem dX0_replay_75 : decode cX0_replay 75 = .ok (.return_, 1) := by decide +kernel
theorem dX0_split_0 : decode cX0_split 0 = .ok (.aload_n 0, 1) := by decide +kernel
theorem dX0_split_1 : decode cX0_split 1 = .ok (.getfield 9, 3) := by decide +kernel
theorem dX0_split_4 : decode cX0_split 4 = .ok (.iconst 0, 1) := by decide +kernel
theorem dX0_split_5 : decode cX0_split 5 = .ok (.iconst 1, 1) := by decide +kernel
theorem dX0_split_6 : decode cX0_split 6 = .ok (.iconst 2, 1) := by decide +kernel
theorem dX0_split_7 : decode cX0_split 7 = .ok (.iconst 4, 1) := by decide +kernel
theorem dX0_split_8 : decode cX0_split 8 = .ok (.aload_n 0, 1) := by decide +kernel
theorem dX0_split_9 : decode cX0_split 9 = .ok (.getfield 27, 3) := by decide +kernel
theorem dX0_split_12 : decode cX0_split 12 = .ok (.getfield 91, 3) := by decide +kernel
theorem dX0_split_15 : decode cX0_split 15 = .ok (.isub, 1) := by decide +kernel
theorem dX0_split_16 : decode cX0_split 16 = .ok (.imul, 1) := by decide +kernel
theorem dX0_split_17 : decode cX0_split 17 = .ok (.ishl, 1) := by decide +kernel
theorem dX0_split_18 : decode cX0_split 18 = .ok (.i2l, 1) := by decide +kernel
theorem dX0_split_19 : decode cX0_split 19 = .ok (.lastore, 1) := by decide +kernel
theorem dX0_split_20 : decode cX0_split 20 = .ok (.iconst 0, 1) := by decide +kernel
theorem dX0_split_21 : decode cX0_split 21 = .ok (.istore_n 2, 1) := by decide +kernel
theorem dX0_split_22 : decode cX0_split 22 = .ok (.iload_n 2, 1) := by decide +kernel
theorem dX0_split_23 : decode cX0_split 23 = .ok (.aload_n 0, 1) := by decide +kernel
theorem dX0_split_24 : decode cX0_split 24 = .ok (.getfield 27, 3) := by decide +kernel
theorem dX0_split_27 : decode cX0_split 27 = .ok (.getfield 91, 3) := by decide +kernel
theorem dX0_split_30 : decode cX0_split 30 = .ok (.if_icmp .ge 74, 3) := by decide +kernel
theorem dX0_split_33 : decode cX0_split 33 = .ok (.aload_n 0, 1) := by decide +kernel
theorem dX0_split_34 : decode cX0_split 34 = .ok (.getfield 27, 3) := by decide +kernel
theorem dX0_split_37 : decode cX0_split 37 = .ok (.iload_n 2, 1) := by decide +kernel
theorem dX0_split_38 : decode cX0_split 38 = .ok (.iload_n 1, 1) := by decide +kernel
theorem dX0_split_39 : decode cX0_split 39 = .ok (.invokevirtual 94, 3) := by decide +kernel
theorem dX0_split_42 : decode cX0_split 42 = .ok (.istore_n 3, 1) := by decide +kernel
theorem dX0_split_43 : decode cX0_split 43 = .ok (.iconst 1, 1) := by decide +kernel
theorem dX0_split_44 : decode cX0_split 44 = .ok (.iload_n 2, 1) := by decide +kernel
theorem dX0_split_45 : decode cX0_split 45 = .ok (.ishl, 1) := by decide +kernel
theorem dX0_split_46 : decode cX0_split 46 = .ok (.istore 4, 2) := by decide +kernel
theorem dX0_split_48 : decode cX0_split 48 = .ok (.iconst 0, 1) := by decide +kernel
theorem dX0_split_49 : decode cX0_split 49 = .ok (.istore 5, 2) := by decide +kernel
theorem dX0_split_51 : decode cX0_split 51 = .ok (.iload 5, 2) := by decide +kernel
theorem dX0_split_53 : decode cX0_split 53 = .ok (.iload 4, 2) := by decide +kernel
theorem dX0_split_55 : decode cX0_split 55 = .ok (.if_icmp .ge 43, 3) := by decide +kernel
theorem dX0_split_58 : decode cX0_split 58 = .ok (.aload_n 0, 1) := by decide +kernel
theorem dX0_split_59 : decode cX0_split 59 = .ok (.getfield 9, 3) := by decide +kernel
theorem dX0_split_62 : decode cX0_split 62 = .ok (.iload 5, 2) := by decide +kernel
theorem dX0_split_64 : decode cX0_split 64 = .ok (.iload 4, 2) := by decide +kernel
theorem dX0_split_66 : decode cX0_split 66 = .ok (.iadd, 1) := by decide +kernel
theorem dX0_split_67 : decode cX0_split 67 = .ok (.aload_n 0, 1) := by decide +kernel
theorem dX0_split_68 : decode cX0_split 68 = .ok (.getfield 9, 3) := by decide +kernel
theorem dX0_split_71 : decode cX0_split 71 = .ok (.iload 5, 2) := by decide +kernel
theorem dX0_split_73 : decode cX0_split 73 = .ok (.laload, 1) := by decide +kernel
theorem dX0_split_74 : decode cX0_split 74 = .ok (.iload_n 3, 1) := by decide +kernel
theorem dX0_split_75 : decode cX0_split 75 = .ok (.i2l, 1) := by decide +kernel
theorem dX0_split_76 : decode cX0_split 76 = .ok (.lmul, 1) := by decide +kernel
theorem dX0_split_77 : decode cX0_split 77 = .ok (.lastore, 1) := by decide +kernel
theorem dX0_split_78 : decode cX0_split 78 = .ok (.aload_n 0, 1) := by decide +kernel
theorem dX0_split_79 : decode cX0_split 79 = .ok (.getfield 9, 3) := by decide +kernel
theorem dX0_split_82 : decode cX0_split 82 = .ok (.iload 5, 2) := by decide +kernel
theorem dX0_split_84 : decode cX0_split 84 = .ok (.dup2, 1) := by decide +kernel
theorem dX0_split_85 : decode cX0_split 85 = .ok (.laload, 1) := by decide +kernel
theorem dX0_split_86 : decode cX0_split 86 = .ok (.iconst 4, 1) := by decide +kernel
theorem dX0_split_87 : decode cX0_split 87 = .ok (.iload_n 3, 1) := by decide +kernel
theorem dX0_split_88 : decode cX0_split 88 = .ok (.isub, 1) := by decide +kernel
theorem dX0_split_89 : decode cX0_split 89 = .ok (.i2l, 1) := by decide +kernel
theorem dX0_split_90 : decode cX0_split 90 = .ok (.lmul, 1) := by decide +kernel
theorem dX0_split_91 : decode cX0_split 91 = .ok (.lastore, 1) := by decide +kernel
theorem dX0_split_92 : decode cX0_split 92 = .ok (.iinc 5 1, 3) := by decide +kernel
theorem dX0_split_95 : decode cX0_split 95 = .ok (.goto (-44), 3) := by decide +kernel
theorem dX0_split_98 : decode cX0_split 98 = .ok (.iinc 2 1, 3) := by decide +kernel
theorem dX0_split_101 : decode cX0_split 101 = .ok (.goto (-79), 3) := by decide +kernel
theorem dX0_split_104 : decode cX0_split 104 = .ok (.return_, 1) := by decide +kernel
theorem dX0_spread_0 : decode cX0_spread 0 = .ok (.iconst 5, 1) := by decide +kernel
theorem dX0_spread_1 : decode cX0_spread 1 = .ok (.iload_n 1, 1) := by decide +kernel
theorem dX0_spread_2 : decode cX0_spread 2 = .ok (.imul, 1) := by decide +kernel
theorem dX0_spread_3 : decode cX0_spread 3 = .ok (.istore_n 2, 1) := by decide +kernel
theorem dX0_spread_4 : decode cX0_spread 4 = .ok (.iconst 0, 1) := by decide +kernel
theorem dX0_spread_5 : decode cX0_spread 5 = .ok (.istore_n 3, 1) := by decide +kernel
theorem dX0_spread_6 : decode cX0_spread 6 = .ok (.iload_n 3, 1) := by decide +kernel
theorem dX0_spread_7 : decode cX0_spread 7 = .ok (.iconst 5, 1) := by decide +kernel
theorem dX0_spread_8 : decode cX0_spread 8 = .ok (.if_icmp .ge 18, 3) := by decide +kernel
theorem dX0_spread_11 : decode cX0_spread 11 = .ok (.aload_n 0, 1) := by decide +kernel
theorem dX0_spread_12 : decode cX0_spread 12 = .ok (.getfield 15, 3) := by decide +kernel
theorem dX0_spread_15 : decode cX0_spread 15 = .ok (.iload_n 2, 1) := by decide +kernel
theorem dX0_spread_16 : decode cX0_spread 16 = .ok (.iload_n 3, 1) := by decide +kernel
theorem dX0_spread_17 : decode cX0_spread 17 = .ok (.iadd, 1) := by decide +kernel
theorem dX0_spread_18 : decode cX0_spread 18 = .ok (.lconst 0, 1) := by decide +kernel
theorem dX0_spread_19 : decode cX0_spread 19 = .ok (.lastore, 1) := by decide +kernel
theorem dX0_spread_20 : decode cX0_spread 20 = .ok (.iinc 3 1, 3) := by decide +kernel
theorem dX0_spread_23 : decode cX0_spread 23 = .ok (.goto (-17), 3) := by decide +kernel
theorem dX0_spread_26 : decode cX0_spread 26 = .ok (.iconst 0, 1) := by decide +kernel
theorem dX0_spread_27 : decode cX0_spread 27 = .ok (.istore_n 3, 1) := by decide +kernel
theorem dX0_spread_28 : decode cX0_spread 28 = .ok (.iload_n 3, 1) := by decide +kernel
theorem dX0_spread_29 : decode cX0_spread 29 = .ok (.iconst 1, 1) := by decide +kernel
theorem dX0_spread_30 : decode cX0_spread 30 = .ok (.aload_n 0, 1) := by decide +kernel
theorem dX0_spread_31 : decode cX0_spread 31 = .ok (.getfield 27, 3) := by decide +kernel
theorem dX0_spread_34 : decode cX0_spread 34 = .ok (.getfield 91, 3) := by decide +kernel
theorem dX0_spread_37 : decode cX0_spread 37 = .ok (.ishl, 1) := by decide +kernel
theorem dX0_spread_38 : decode cX0_spread 38 = .ok (.if_icmp .ge 32, 3) := by decide +kernel
theorem dX0_spread_41 : decode cX0_spread 41 = .ok (.aload_n 0, 1) := by decide +kernel
theorem dX0_spread_42 : decode cX0_spread 42 = .ok (.getfield 9, 3) := by decide +kernel
theorem dX0_spread_45 : decode cX0_spread 45 = .ok (.iload_n 3, 1) := by decide +kernel
theorem dX0_spread_46 : decode cX0_spread 46 = .ok (.laload, 1) := by decide +kernel
theorem dX0_spread_47 : decode cX0_spread 47 = .ok (.lconst 0, 1) := by decide +kernel
theorem dX0_spread_48 : decode cX0_spread 48 = .ok (.lcmp, 1) := by decide +kernel
theorem dX0_spread_49 : decode cX0_spread 49 = .ok (.ifCond .eq 15, 3) := by decide +kernel
theorem dX0_spread_52 : decode cX0_spread 52 = .ok (.aload_n 0, 1) := by decide +kernel
theorem dX0_spread_53 : decode cX0_spread 53 = .ok (.iload_n 2, 1) := by decide +kernel
theorem dX0_spread_54 : decode cX0_spread 54 = .ok (.iload_n 3, 1) := by decide +kernel
theorem dX0_spread_55 : decode cX0_spread 55 = .ok (.aload_n 0, 1) := by decide +kernel
theorem dX0_spread_56 : decode cX0_spread 56 = .ok (.getfield 9, 3) := by decide +kernel
theorem dX0_spread_59 : decode cX0_spread 59 = .ok (.iload_n 3, 1) := by decide +kernel
theorem dX0_spread_60 : decode cX0_spread 60 = .ok (.laload, 1) := by decide +kernel
theorem dX0_spread_61 : decode cX0_spread 61 = .ok (.invokevirtual 98, 3) := by decide +kernel
theorem dX0_spread_64 : decode cX0_spread 64 = .ok (.iinc 3 1, 3) := by decide +kernel
theorem dX0_spread_67 : decode cX0_spread 67 = .ok (.goto (-39), 3) := by decide +kernel
theorem dX0_spread_70 : decode cX0_spread 70 = .ok (.return_, 1) := by decide +kernel
theorem dX0_passOn_0 : decode cX0_passOn 0 = .ok (.iload_n 2, 1) := by decide +kernel
theorem dX0_passOn_1 : decode cX0_passOn 1 = .ok (.invokestatic 102, 3) := by decide +kernel
theorem dX0_passOn_4 : decode cX0_passOn 4 = .ok (.istore 5, 2) := by decide +kernel
theorem dX0_passOn_6 : decode cX0_passOn 6 = .ok (.iload 5, 2) := by decide +kernel
theorem dX0_passOn_8 : decode cX0_passOn 8 = .ok (.ifCond .eq 19, 3) := by decide +kernel
theorem dX0_passOn_11 : decode cX0_passOn 11 = .ok (.iload 5, 2) := by decide +kernel
theorem dX0_passOn_13 : decode cX0_passOn 13 = .ok (.iconst 1, 1) := by decide +kernel
theorem dX0_passOn_14 : decode cX0_passOn 14 = .ok (.if_icmp .le 30, 3) := by decide +kernel
theorem dX0_passOn_17 : decode cX0_passOn 17 = .ok (.aload_n 0, 1) := by decide +kernel
theorem dX0_passOn_18 : decode cX0_passOn 18 = .ok (.getfield 27, 3) := by decide +kernel
theorem dX0_passOn_21 : decode cX0_passOn 21 = .ok (.getfield 107, 3) := by decide +kernel
theorem dX0_passOn_24 : decode cX0_passOn 24 = .ok (.ifCond .ne 20, 3) := by decide +kernel
theorem dX0_passOn_27 : decode cX0_passOn 27 = .ok (.aload_n 0, 1) := by decide +kernel
theorem dX0_passOn_28 : decode cX0_passOn 28 = .ok (.getfield 15, 3) := by decide +kernel
theorem dX0_passOn_31 : decode cX0_passOn 31 = .ok (.iload_n 1, 1) := by decide +kernel
theorem dX0_passOn_32 : decode cX0_passOn 32 = .ok (.iconst 4, 1) := by decide +kernel
theorem dX0_passOn_33 : decode cX0_passOn 33 = .ok (.iadd, 1) := by decide +kernel
theorem dX0_passOn_34 : decode cX0_passOn 34 = .ok (.dup2, 1) := by decide +kernel
theorem dX0_passOn_35 : decode cX0_passOn 35 = .ok (.laload, 1) := by decide +kernel
theorem dX0_passOn_36 : decode cX0_passOn 36 = .ok (.ldc2_w 110, 3) := by decide +kernel
theorem dX0_passOn_39 : decode cX0_passOn 39 = .ok (.lload_n 3, 1) := by decide +kernel
theorem dX0_passOn_40 : decode cX0_passOn 40 = .ok (.lmul, 1) := by decide +kernel
theorem dX0_passOn_41 : decode cX0_passOn 41 = .ok (.ladd, 1) := by decide +kernel
theorem dX0_passOn_42 : decode cX0_passOn 42 = .ok (.lastore, 1) := by decide +kernel
theorem dX0_passOn_43 : decode cX0_passOn 43 = .ok (.return_, 1) := by decide +kernel
theorem dX0_passOn_44 : decode cX0_passOn 44 = .ok (.aload_n 0, 1) := by decide +kernel
theorem dX0_passOn_45 : decode cX0_passOn 45 = .ok (.getfield 27, 3) := by decide +kernel
theorem dX0_passOn_48 : decode cX0_passOn 48 = .ok (.getfield 107, 3) := by decide +kernel
theorem dX0_passOn_51 : decode cX0_passOn 51 = .ok (.iconst 1, 1) := by decide +kernel
theorem dX0_passOn_52 : decode cX0_passOn 52 = .ok (.if_icmp .ne 7, 3) := by decide +kernel
theorem dX0_passOn_55 : decode cX0_passOn 55 = .ok (.iconst 1, 1) := by decide +kernel
theorem dX0_passOn_56 : decode cX0_passOn 56 = .ok (.goto 5, 3) := by decide +kernel
theorem dX0_passOn_59 : decode cX0_passOn 59 = .ok (.iload 5, 2) := by decide +kernel
theorem dX0_passOn_61 : decode cX0_passOn 61 = .ok (.istore 6, 2) := by decide +kernel
theorem dX0_passOn_63 : decode cX0_passOn 63 = .ok (.iload 6, 2) := by decide +kernel
theorem dX0_passOn_65 : decode cX0_passOn 65 = .ok (.istore 7, 2) := by decide +kernel
theorem dX0_passOn_67 : decode cX0_passOn 67 = .ok (.iconst 0, 1) := by decide +kernel
theorem dX0_passOn_68 : decode cX0_passOn 68 = .ok (.istore 8, 2) := by decide +kernel
theorem dX0_passOn_70 : decode cX0_passOn 70 = .ok (.iload 8, 2) := by decide +kernel
theorem dX0_passOn_72 : decode cX0_passOn 72 = .ok (.aload_n 0, 1) := by decide +kernel
theorem dX0_passOn_73 : decode cX0_passOn 73 = .ok (.getfield 27, 3) := by decide +kernel
theorem dX0_passOn_76 : decode cX0_passOn 76 = .ok (.getfield 91, 3) := by decide +kernel
theorem dX0_passOn_79 : decode cX0_passOn 79 = .ok (.if_icmp .ge 46, 3) := by decide +kernel
theorem dX0_passOn_82 : decode cX0_passOn 82 = .ok (.iload 7, 2) := by decide +kernel
theorem dX0_passOn_84 : decode cX0_passOn 84 = .ok (.ifCond .le 41, 3) := by decide +kernel
theorem dX0_passOn_87 : decode cX0_passOn 87 = .ok (.iload_n 2, 1) := by decide +kernel
theorem dX0_passOn_88 : decode cX0_passOn 88 = .ok (.iload 8, 2) := by decide +kernel
theorem dX0_passOn_90 : decode cX0_passOn 90 = .ok (.invokestatic 84, 3) := by decide +kernel
theorem dX0_passOn_93 : decode cX0_passOn 93 = .ok (.ifCond .eq 26, 3) := by decide +kernel
theorem dX0_passOn_96 : decode cX0_passOn 96 = .ok (.aload_n 0, 1) := by decide +kernel
theorem dX0_passOn_97 : decode cX0_passOn 97 = .ok (.getfield 15, 3) := by decide +kernel
theorem dX0_passOn_100 : decode cX0_passOn 100 = .ok (.iload_n 1, 1) := by decide +kernel
theorem dX0_passOn_101 : decode cX0_passOn 101 = .ok (.iload 8, 2) := by decide +kernel
theorem dX0_passOn_103 : decode cX0_passOn 103 = .ok (.iadd, 1) := by decide +kernel
theorem dX0_passOn_104 : decode cX0_passOn 104 = .ok (.dup2, 1) := by decide +kernel
theorem dX0_passOn_105 : decode cX0_passOn 105 = .ok (.laload, 1) := by decide +kernel
theorem dX0_passOn_106 : decode cX0_passOn 106 = .ok (.bipush 12, 2) := by decide +kernel
theorem dX0_passOn_108 : decode cX0_passOn 108 = .ok (.iload 6, 2) := by decide +kernel
theorem dX0_passOn_110 : decode cX0_passOn 110 = .ok (.idiv, 1) := by decide +kernel
theorem dX0_passOn_111 : decode cX0_passOn 111 = .ok (.i2l, 1) := by decide +kernel
theorem dX0_passOn_112 : decode cX0_passOn 112 = .ok (.lload_n 3, 1) := by decide +kernel
theorem dX0_passOn_113 : decode cX0_passOn 113 = .ok (.lmul, 1) := by decide +kernel
theorem dX0_passOn_114 : decode cX0_passOn 114 = .ok (.ladd, 1) := by decide +kernel
theorem dX0_passOn_115 : decode cX0_passOn 115 = .ok (.lastore, 1) := by decide +kernel
theorem dX0_passOn_116 : decode cX0_passOn 116 = .ok (.iinc 7 (-1), 3) := by decide +kernel
theorem dX0_passOn_119 : decode cX0_passOn 119 = .ok (.iinc 8 1, 3) := by decide +kernel
theorem dX0_passOn_122 : decode cX0_passOn 122 = .ok (.goto (-52), 3) := by decide +kernel
theorem dX0_passOn_125 : decode cX0_passOn 125 = .ok (.return_, 1) := by decide +kernel
theorem dX0_begin_0 : decode cX0_begin 0 = .ok (.iconst 0, 1) := by decide +kernel
theorem dX0_begin_1 : decode cX0_begin 1 = .ok (.istore_n 1, 1) := by decide +kernel
theorem dX0_begin_2 : decode cX0_begin 2 = .ok (.iload_n 1, 1) := by decide +kernel
theorem dX0_begin_3 : decode cX0_begin 3 = .ok (.iconst 4, 1) := by decide +kernel
theorem dX0_begin_4 : decode cX0_begin 4 = .ok (.if_icmp .ge 43, 3) := by decide +kernel
theorem dX0_begin_7 : decode cX0_begin 7 = .ok (.aload_n 0, 1) := by decide +kernel
theorem dX0_begin_8 : decode cX0_begin 8 = .ok (.getfield 18, 3) := by decide +kernel
theorem dX0_begin_11 : decode cX0_begin 11 = .ok (.iload_n 1, 1) := by decide +kernel
theorem dX0_begin_12 : decode cX0_begin 12 = .ok (.iload_n 1, 1) := by decide +kernel
theorem dX0_begin_13 : decode cX0_begin 13 = .ok (.aload_n 0, 1) := by decide +kernel
theorem dX0_begin_14 : decode cX0_begin 14 = .ok (.getfield 27, 3) := by decide +kernel
theorem dX0_begin_17 : decode cX0_begin 17 = .ok (.getfield 55, 3) := by decide +kernel
theorem dX0_begin_20 : decode cX0_begin 20 = .ok (.if_icmp .ne 7, 3) := by decide +kernel
theorem dX0_begin_23 : decode cX0_begin 23 = .ok (.lconst 1, 1) := by decide +kernel
theorem dX0_begin_24 : decode cX0_begin 24 = .ok (.goto 4, 3) := by decide +kernel
theorem dX0_begin_27 : decode cX0_begin 27 = .ok (.lconst 0, 1) := by decide +kernel
theorem dX0_begin_28 : decode cX0_begin 28 = .ok (.lastore, 1) := by decide +kernel
theorem dX0_begin_29 : decode cX0_begin 29 = .ok (.aload_n 0, 1) := by decide +kernel
theorem dX0_begin_30 : decode cX0_begin 30 = .ok (.getfield 24, 3) := by decide +kernel
theorem dX0_begin_33 : decode cX0_begin 33 = .ok (.iload_n 1, 1) := by decide +kernel
theorem dX0_begin_34 : decode cX0_begin 34 = .ok (.aload_n 0, 1) := by decide +kernel
theorem dX0_begin_35 : decode cX0_begin 35 = .ok (.getfield 18, 3) := by decide +kernel
theorem dX0_begin_38 : decode cX0_begin 38 = .ok (.iload_n 1, 1) := by decide +kernel
theorem dX0_begin_39 : decode cX0_begin 39 = .ok (.laload, 1) := by decide +kernel
theorem dX0_begin_40 : decode cX0_begin 40 = .ok (.lastore, 1) := by decide +kernel
theorem dX0_begin_41 : decode cX0_begin 41 = .ok (.iinc 1 1, 3) := by decide +kernel
theorem dX0_begin_44 : decode cX0_begin 44 = .ok (.goto (-42), 3) := by decide +kernel
theorem dX0_begin_47 : decode cX0_begin 47 = .ok (.aload_n 0, 1) := by decide +kernel
theorem dX0_begin_48 : decode cX0_begin 48 = .ok (.lconst 1, 1) := by decide +kernel
theorem dX0_begin_49 : decode cX0_begin 49 = .ok (.putfield 112, 3) := by decide +kernel
theorem dX0_begin_52 : decode cX0_begin 52 = .ok (.return_, 1) := by decide +kernel
theorem dX0_step_0 : decode cX0_step 0 = .ok (.iconst 5, 1) := by decide +kernel
theorem dX0_step_1 : decode cX0_step 1 = .ok (.iload_n 2, 1) := by decide +kernel
theorem dX0_step_2 : decode cX0_step 2 = .ok (.imul, 1) := by decide +kernel
theorem dX0_step_3 : decode cX0_step 3 = .ok (.istore_n 3, 1) := by decide +kernel
theorem dX0_step_4 : decode cX0_step 4 = .ok (.aload_n 0, 1) := by decide +kernel
theorem dX0_step_5 : decode cX0_step 5 = .ok (.getfield 27, 3) := by decide +kernel
theorem dX0_step_8 : decode cX0_step 8 = .ok (.getfield 116, 3) := by decide +kernel
theorem dX0_step_11 : decode cX0_step 11 = .ok (.iconst 1, 1) := by decide +kernel
theorem dX0_step_12 : decode cX0_step 12 = .ok (.if_icmp .ne 12, 3) := by decide +kernel
theorem dX0_step_15 : decode cX0_step 15 = .ok (.aload_n 0, 1) := by decide +kernel
theorem dX0_step_16 : decode cX0_step 16 = .ok (.iload_n 1, 1) := by decide +kernel
theorem dX0_step_17 : decode cX0_step 17 = .ok (.iload_n 3, 1) := by decide +kernel
theorem dX0_step_18 : decode cX0_step 18 = .ok (.invokevirtual 119, 3) := by decide +kernel
theorem dX0_step_21 : decode cX0_step 21 = .ok (.goto 9, 3) := by decide +kernel
theorem dX0_step_24 : decode cX0_step 24 = .ok (.aload_n 0, 1) := by decide +kernel
theorem dX0_step_25 : decode cX0_step 25 = .ok (.iload_n 1, 1) := by decide +kernel
theorem dX0_step_26 : decode cX0_step 26 = .ok (.iload_n 3, 1) := by decide +kernel
theorem dX0_step_27 : decode cX0_step 27 = .ok (.invokevirtual 122, 3) := by decide +kernel
theorem dX0_step_30 : decode cX0_step 30 = .ok (.aload_n 0, 1) := by decide +kernel
theorem dX0_step_31 : decode cX0_step 31 = .ok (.getfield 27, 3) := by decide +kernel
theorem dX0_step_34 : decode cX0_step 34 = .ok (.getfield 116, 3) := by decide +kernel
theorem dX0_step_37 : decode cX0_step 37 = .ok (.iconst 2, 1) := by decide +kernel
theorem dX0_step_38 : decode cX0_step 38 = .ok (.if_icmp .ne 8, 3) := by decide +kernel
theorem dX0_step_41 : decode cX0_step 41 = .ok (.aload_n 0, 1) := by decide +kernel
theorem dX0_step_42 : decode cX0_step 42 = .ok (.iload_n 3, 1) := by decide +kernel
theorem dX0_step_43 : decode cX0_step 43 = .ok (.invokevirtual 125, 3) := by decide +kernel
theorem dX0_step_46 : decode cX0_step 46 = .ok (.return_, 1) := by decide +kernel
theorem dX0_stepOn_0 : decode cX0_stepOn 0 = .ok (.iconst 0, 1) := by decide +kernel
theorem dX0_stepOn_1 : decode cX0_stepOn 1 = .ok (.istore_n 3, 1) := by decide +kernel
theorem dX0_stepOn_2 : decode cX0_stepOn 2 = .ok (.iload_n 3, 1) := by decide +kernel
theorem dX0_stepOn_3 : decode cX0_stepOn 3 = .ok (.aload_n 0, 1) := by decide +kernel
theorem dX0_stepOn_4 : decode cX0_stepOn 4 = .ok (.getfield 27, 3) := by decide +kernel
theorem dX0_stepOn_7 : decode cX0_stepOn 7 = .ok (.getfield 91, 3) := by decide +kernel
theorem dX0_stepOn_10 : decode cX0_stepOn 10 = .ok (.if_icmp .ge 55, 3) := by decide +kernel
theorem dX0_stepOn_13 : decode cX0_stepOn 13 = .ok (.aload_n 0, 1) := by decide +kernel
theorem dX0_stepOn_14 : decode cX0_stepOn 14 = .ok (.getfield 18, 3) := by decide +kernel
theorem dX0_stepOn_17 : decode cX0_stepOn 17 = .ok (.iconst 4, 1) := by decide +kernel
theorem dX0_stepOn_18 : decode cX0_stepOn 18 = .ok (.iload_n 1, 1) := by decide +kernel
theorem dX0_stepOn_19 : decode cX0_stepOn 19 = .ok (.iconst 1, 1) := by decide +kernel
theorem dX0_stepOn_20 : decode cX0_stepOn 20 = .ok (.iadd, 1) := by decide +kernel
theorem dX0_stepOn_21 : decode cX0_stepOn 21 = .ok (.imul, 1) := by decide +kernel
theorem dX0_stepOn_22 : decode cX0_stepOn 22 = .ok (.iload_n 3, 1) := by decide +kernel
theorem dX0_stepOn_23 : decode cX0_stepOn 23 = .ok (.iadd, 1) := by decide +kernel
theorem dX0_stepOn_24 : decode cX0_stepOn 24 = .ok (.aload_n 0, 1) := by decide +kernel
theorem dX0_stepOn_25 : decode cX0_stepOn 25 = .ok (.getfield 18, 3) := by decide +kernel
theorem dX0_stepOn_28 : decode cX0_stepOn 28 = .ok (.iconst 4, 1) := by decide +kernel
theorem dX0_stepOn_29 : decode cX0_stepOn 29 = .ok (.iload_n 1, 1) := by decide +kernel
theorem dX0_stepOn_30 : decode cX0_stepOn 30 = .ok (.imul, 1) := by decide +kernel
theorem dX0_stepOn_31 : decode cX0_stepOn 31 = .ok (.iload_n 3, 1) := by decide +kernel
theorem dX0_stepOn_32 : decode cX0_stepOn 32 = .ok (.iadd, 1) := by decide +kernel
theorem dX0_stepOn_33 : decode cX0_stepOn 33 = .ok (.laload, 1) := by decide +kernel
theorem dX0_stepOn_34 : decode cX0_stepOn 34 = .ok (.aload_n 0, 1) := by decide +kernel
theorem dX0_stepOn_35 : decode cX0_stepOn 35 = .ok (.getfield 15, 3) := by decide +kernel
theorem dX0_stepOn_38 : decode cX0_stepOn 38 = .ok (.iload_n 2, 1) := by decide +kernel
theorem dX0_stepOn_39 : decode cX0_stepOn 39 = .ok (.iconst 4, 1) := by decide +kernel
theorem dX0_stepOn_40 : decode cX0_stepOn 40 = .ok (.iadd, 1) := by decide +kernel
theorem dX0_stepOn_41 : decode cX0_stepOn 41 = .ok (.laload, 1) := by decide +kernel
theorem dX0_stepOn_42 : decode cX0_stepOn 42 = .ok (.lmul, 1) := by decide +kernel
theorem dX0_stepOn_43 : decode cX0_stepOn 43 = .ok (.getstatic 31, 3) := by decide +kernel
theorem dX0_stepOn_46 : decode cX0_stepOn 46 = .ok (.iload_n 1, 1) := by decide +kernel
theorem dX0_stepOn_47 : decode cX0_stepOn 47 = .ok (.laload, 1) := by decide +kernel
theorem dX0_stepOn_48 : decode cX0_stepOn 48 = .ok (.aload_n 0, 1) := by decide +kernel
theorem dX0_stepOn_49 : decode cX0_stepOn 49 = .ok (.getfield 15, 3) := by decide +kernel
theorem dX0_stepOn_52 : decode cX0_stepOn 52 = .ok (.iload_n 2, 1) := by decide +kernel
theorem dX0_stepOn_53 : decode cX0_stepOn 53 = .ok (.iload_n 3, 1) := by decide +kernel
theorem dX0_stepOn_54 : decode cX0_stepOn 54 = .ok (.iadd, 1) := by decide +kernel
theorem dX0_stepOn_55 : decode cX0_stepOn 55 = .ok (.laload, 1) := by decide +kernel
theorem dX0_stepOn_56 : decode cX0_stepOn 56 = .ok (.lmul, 1) := by decide +kernel
theorem dX0_stepOn_57 : decode cX0_stepOn 57 = .ok (.ladd, 1) := by decide +kernel
theorem dX0_stepOn_58 : decode cX0_stepOn 58 = .ok (.lastore, 1) := by decide +kernel
theorem dX0_stepOn_59 : decode cX0_stepOn 59 = .ok (.iinc 3 1, 3) := by decide +kernel
theorem dX0_stepOn_62 : decode cX0_stepOn 62 = .ok (.goto (-60), 3) := by decide +kernel
theorem dX0_stepOn_65 : decode cX0_stepOn 65 = .ok (.return_, 1) := by decide +kernel
theorem dX0_stepOnce_0 : decode cX0_stepOnce 0 = .ok (.aload_n 0, 1) := by decide +kernel
theorem dX0_stepOnce_1 : decode cX0_stepOnce 1 = .ok (.getfield 15, 3) := by decide +kernel
theorem dX0_stepOnce_4 : decode cX0_stepOnce 4 = .ok (.iload_n 2, 1) := by decide +kernel
theorem dX0_stepOnce_5 : decode cX0_stepOnce 5 = .ok (.iconst 4, 1) := by decide +kernel
theorem dX0_stepOnce_6 : decode cX0_stepOnce 6 = .ok (.iadd, 1) := by decide +kernel
theorem dX0_stepOnce_7 : decode cX0_stepOnce 7 = .ok (.laload, 1) := by decide +kernel
theorem dX0_stepOnce_8 : decode cX0_stepOnce 8 = .ok (.lstore_n 3, 1) := by decide +kernel
theorem dX0_stepOnce_9 : decode cX0_stepOnce 9 = .ok (.iconst 0, 1) := by decide +kernel
theorem dX0_stepOnce_10 : decode cX0_stepOnce 10 = .ok (.istore 5, 2) := by decide +kernel
theorem dX0_stepOnce_12 : decode cX0_stepOnce 12 = .ok (.iload 5, 2) := by decide +kernel
theorem dX0_stepOnce_14 : decode cX0_stepOnce 14 = .ok (.aload_n 0, 1) := by decide +kernel
theorem dX0_stepOnce_15 : decode cX0_stepOnce 15 = .ok (.getfield 27, 3) := by decide +kernel
theorem dX0_stepOnce_18 : decode cX0_stepOnce 18 = .ok (.getfield 91, 3) := by decide +kernel
theorem dX0_stepOnce_21 : decode cX0_stepOnce 21 = .ok (.if_icmp .ge 87, 3) := by decide +kernel
theorem dX0_stepOnce_24 : decode cX0_stepOnce 24 = .ok (.aload_n 0, 1) := by decide +kernel
theorem dX0_stepOnce_25 : decode cX0_stepOnce 25 = .ok (.getfield 112, 3) := by decide +kernel
theorem dX0_stepOnce_28 : decode cX0_stepOnce 28 = .ok (.aload_n 0, 1) := by decide +kernel
theorem dX0_stepOnce_29 : decode cX0_stepOnce 29 = .ok (.getfield 15, 3) := by decide +kernel
theorem dX0_stepOnce_32 : decode cX0_stepOnce 32 = .ok (.iload_n 2, 1) := by decide +kernel
theorem dX0_stepOnce_33 : decode cX0_stepOnce 33 = .ok (.iload 5, 2) := by decide +kernel
theorem dX0_stepOnce_35 : decode cX0_stepOnce 35 = .ok (.iadd, 1) := by decide +kernel
theorem dX0_stepOnce_36 : decode cX0_stepOnce 36 = .ok (.laload, 1) := by decide +kernel
theorem dX0_stepOnce_37 : decode cX0_stepOnce 37 = .ok (.lmul, 1) := by decide +kernel
theorem dX0_stepOnce_38 : decode cX0_stepOnce 38 = .ok (.lstore 6, 2) := by decide +kernel
theorem dX0_stepOnce_40 : decode cX0_stepOnce 40 = .ok (.iload 5, 2) := by decide +kernel
theorem dX0_stepOnce_42 : decode cX0_stepOnce 42 = .ok (.aload_n 0, 1) := by decide +kernel
theorem dX0_stepOnce_43 : decode cX0_stepOnce 43 = .ok (.getfield 27, 3) := by decide +kernel
theorem dX0_stepOnce_46 : decode cX0_stepOnce 46 = .ok (.getfield 55, 3) := by decide +kernel
theorem dX0_stepOnce_49 : decode cX0_stepOnce 49 = .ok (.if_icmp .ne 20, 3) := by decide +kernel
theorem dX0_stepOnce_52 : decode cX0_stepOnce 52 = .ok (.lload 6, 2) := by decide +kernel
theorem dX0_stepOnce_54 : decode cX0_stepOnce 54 = .ok (.aload_n 0, 1) := by decide +kernel
theorem dX0_stepOnce_55 : decode cX0_stepOnce 55 = .ok (.getfield 112, 3) := by decide +kernel
theorem dX0_stepOnce_58 : decode cX0_stepOnce 58 = .ok (.getstatic 31, 3) := by decide +kernel
theorem dX0_stepOnce_61 : decode cX0_stepOnce 61 = .ok (.iconst 1, 1) := by decide +kernel
theorem dX0_stepOnce_62 : decode cX0_stepOnce 62 = .ok (.laload, 1) := by decide +kernel
theorem dX0_stepOnce_63 : decode cX0_stepOnce 63 = .ok (.lload_n 3, 1) := by decide +kernel
theorem dX0_stepOnce_64 : decode cX0_stepOnce 64 = .ok (.lsub, 1) := by decide +kernel
theorem dX0_stepOnce_65 : decode cX0_stepOnce 65 = .ok (.lmul, 1) := by decide +kernel
theorem dX0_stepOnce_66 : decode cX0_stepOnce 66 = .ok (.lsub, 1) := by decide +kernel
theorem dX0_stepOnce_67 : decode cX0_stepOnce 67 = .ok (.lstore 6, 2) := by decide +kernel
theorem dX0_stepOnce_69 : decode cX0_stepOnce 69 = .ok (.aload_n 0, 1) := by decide +kernel
theorem dX0_stepOnce_70 : decode cX0_stepOnce 70 = .ok (.getfield 18, 3) := by decide +kernel
theorem dX0_stepOnce_73 : decode cX0_stepOnce 73 = .ok (.iconst 4, 1) := by decide +kernel
theorem dX0_stepOnce_74 : decode cX0_stepOnce 74 = .ok (.iload_n 1, 1) := by decide +kernel
theorem dX0_stepOnce_75 : decode cX0_stepOnce 75 = .ok (.iconst 1, 1) := by decide +kernel
theorem dX0_stepOnce_76 : decode cX0_stepOnce 76 = .ok (.iadd, 1) := by decide +kernel
theorem dX0_stepOnce_77 : decode cX0_stepOnce 77 = .ok (.imul, 1) := by decide +kernel
theorem dX0_stepOnce_78 : decode cX0_stepOnce 78 = .ok (.iload 5, 2) := by decide +kernel
theorem dX0_stepOnce_80 : decode cX0_stepOnce 80 = .ok (.iadd, 1) := by decide +kernel
theorem dX0_stepOnce_81 : decode cX0_stepOnce 81 = .ok (.aload_n 0, 1) := by decide +kernel
theorem dX0_stepOnce_82 : decode cX0_stepOnce 82 = .ok (.getfield 18, 3) := by decide +kernel
theorem dX0_stepOnce_85 : decode cX0_stepOnce 85 = .ok (.iconst 4, 1) := by decide +kernel
theorem dX0_stepOnce_86 : decode cX0_stepOnce 86 = .ok (.iload_n 1, 1) := by decide +kernel
theorem dX0_stepOnce_87 : decode cX0_stepOnce 87 = .ok (.imul, 1) := by decide +kernel
theorem dX0_stepOnce_88 : decode cX0_stepOnce 88 = .ok (.iload 5, 2) := by decide +kernel
theorem dX0_stepOnce_90 : decode cX0_stepOnce 90 = .ok (.iadd, 1) := by decide +kernel
theorem dX0_stepOnce_91 : decode cX0_stepOnce 91 = .ok (.laload, 1) := by decide +kernel
theorem dX0_stepOnce_92 : decode cX0_stepOnce 92 = .ok (.getstatic 31, 3) := by decide +kernel
theorem dX0_stepOnce_95 : decode cX0_stepOnce 95 = .ok (.iconst 1, 1) := by decide +kernel
theorem dX0_stepOnce_96 : decode cX0_stepOnce 96 = .ok (.laload, 1) := by decide +kernel
theorem dX0_stepOnce_97 : decode cX0_stepOnce 97 = .ok (.lmul, 1) := by decide +kernel
theorem dX0_stepOnce_98 : decode cX0_stepOnce 98 = .ok (.lload 6, 2) := by decide +kernel
theorem dX0_stepOnce_100 : decode cX0_stepOnce 100 = .ok (.ladd, 1) := by decide +kernel
theorem dX0_stepOnce_101 : decode cX0_stepOnce 101 = .ok (.lastore, 1) := by decide +kernel
theorem dX0_stepOnce_102 : decode cX0_stepOnce 102 = .ok (.iinc 5 1, 3) := by decide +kernel
theorem dX0_stepOnce_105 : decode cX0_stepOnce 105 = .ok (.goto (-93), 3) := by decide +kernel
theorem dX0_stepOnce_108 : decode cX0_stepOnce 108 = .ok (.aload_n 0, 1) := by decide +kernel
theorem dX0_stepOnce_109 : decode cX0_stepOnce 109 = .ok (.dup, 1) := by decide +kernel
theorem dX0_stepOnce_110 : decode cX0_stepOnce 110 = .ok (.getfield 112, 3) := by decide +kernel
theorem dX0_stepOnce_113 : decode cX0_stepOnce 113 = .ok (.lload_n 3, 1) := by decide +kernel
theorem dX0_stepOnce_114 : decode cX0_stepOnce 114 = .ok (.lmul, 1) := by decide +kernel
theorem dX0_stepOnce_115 : decode cX0_stepOnce 115 = .ok (.putfield 112, 3) := by decide +kernel
theorem dX0_stepOnce_118 : decode cX0_stepOnce 118 = .ok (.return_, 1) := by decide +kernel
theorem dX0_halve_0 : decode cX0_halve 0 = .ok (.lconst 0, 1) := by decide +kernel
theorem dX0_halve_1 : decode cX0_halve 1 = .ok (.lstore_n 2, 1) := by decide +kernel
theorem dX0_halve_2 : decode cX0_halve 2 = .ok (.iconst 0, 1) := by decide +kernel
theorem dX0_halve_3 : decode cX0_halve 3 = .ok (.istore 4, 2) := by decide +kernel
theorem dX0_halve_5 : decode cX0_halve 5 = .ok (.iload 4, 2) := by decide +kernel
theorem dX0_halve_7 : decode cX0_halve 7 = .ok (.aload_n 0, 1) := by decide +kernel
theorem dX0_halve_8 : decode cX0_halve 8 = .ok (.getfield 27, 3) := by decide +kernel
theorem dX0_halve_11 : decode cX0_halve 11 = .ok (.getfield 91, 3) := by decide +kernel
theorem dX0_halve_14 : decode cX0_halve 14 = .ok (.if_icmp .ge 33, 3) := by decide +kernel
theorem dX0_halve_17 : decode cX0_halve 17 = .ok (.aload_n 0, 1) := by decide +kernel
theorem dX0_halve_18 : decode cX0_halve 18 = .ok (.getfield 21, 3) := by decide +kernel
theorem dX0_halve_21 : decode cX0_halve 21 = .ok (.iload 4, 2) := by decide +kernel
theorem dX0_halve_23 : decode cX0_halve 23 = .ok (.aload_n 0, 1) := by decide +kernel
theorem dX0_halve_24 : decode cX0_halve 24 = .ok (.getfield 24, 3) := by decide +kernel
theorem dX0_halve_27 : decode cX0_halve 27 = .ok (.iload 4, 2) := by decide +kernel
theorem dX0_halve_29 : decode cX0_halve 29 = .ok (.laload, 1) := by decide +kernel
theorem dX0_halve_30 : decode cX0_halve 30 = .ok (.lastore, 1) := by decide +kernel
theorem dX0_halve_31 : decode cX0_halve 31 = .ok (.lload_n 2, 1) := by decide +kernel
theorem dX0_halve_32 : decode cX0_halve 32 = .ok (.aload_n 0, 1) := by decide +kernel
theorem dX0_halve_33 : decode cX0_halve 33 = .ok (.getfield 24, 3) := by decide +kernel
theorem dX0_halve_36 : decode cX0_halve 36 = .ok (.iload 4, 2) := by decide +kernel
theorem dX0_halve_38 : decode cX0_halve 38 = .ok (.laload, 1) := by decide +kernel
theorem dX0_halve_39 : decode cX0_halve 39 = .ok (.ladd, 1) := by decide +kernel
theorem dX0_halve_40 : decode cX0_halve 40 = .ok (.lstore_n 2, 1) := by decide +kernel
theorem dX0_halve_41 : decode cX0_halve 41 = .ok (.iinc 4 1, 3) := by decide +kernel
theorem dX0_halve_44 : decode cX0_halve 44 = .ok (.goto (-39), 3) := by decide +kernel
theorem dX0_halve_47 : decode cX0_halve 47 = .ok (.iconst 0, 1) := by decide +kernel
theorem dX0_halve_48 : decode cX0_halve 48 = .ok (.istore 4, 2) := by decide +kernel
theorem dX0_halve_50 : decode cX0_halve 50 = .ok (.iload 4, 2) := by decide +kernel
theorem dX0_halve_52 : decode cX0_halve 52 = .ok (.aload_n 0, 1) := by decide +kernel
theorem dX0_halve_53 : decode cX0_halve 53 = .ok (.getfield 27, 3) := by decide +kernel
theorem dX0_halve_56 : decode cX0_halve 56 = .ok (.getfield 91, 3) := by decide +kernel
theorem dX0_halve_59 : decode cX0_halve 59 = .ok (.if_icmp .ge 70, 3) := by decide +kernel
theorem dX0_halve_62 : decode cX0_halve 62 = .ok (.aload_n 0, 1) := by decide +kernel
theorem dX0_halve_63 : decode cX0_halve 63 = .ok (.getfield 15, 3) := by decide +kernel
theorem dX0_halve_66 : decode cX0_halve 66 = .ok (.iload_n 1, 1) := by decide +kernel
theorem dX0_halve_67 : decode cX0_halve 67 = .ok (.iconst 4, 1) := by decide +kernel
theorem dX0_halve_68 : decode cX0_halve 68 = .ok (.iadd, 1) := by decide +kernel
theorem dX0_halve_69 : decode cX0_halve 69 = .ok (.laload, 1) := by decide +kernel
theorem dX0_halve_70 : decode cX0_halve 70 = .ok (.aload_n 0, 1) := by decide +kernel
theorem dX0_halve_71 : decode cX0_halve 71 = .ok (.getfield 15, 3) := by decide +kernel
theorem dX0_halve_74 : decode cX0_halve 74 = .ok (.iload_n 1, 1) := by decide +kernel
theorem dX0_halve_75 : decode cX0_halve 75 = .ok (.iload 4, 2) := by decide +kernel
theorem dX0_halve_77 : decode cX0_halve 77 = .ok (.iadd, 1) := by decide +kernel
theorem dX0_halve_78 : decode cX0_halve 78 = .ok (.laload, 1) := by decide +kernel
theorem dX0_halve_79 : decode cX0_halve 79 = .ok (.ladd, 1) := by decide +kernel
theorem dX0_halve_80 : decode cX0_halve 80 = .ok (.lstore 5, 2) := by decide +kernel
theorem dX0_halve_82 : decode cX0_halve 82 = .ok (.aload_n 0, 1) := by decide +kernel
theorem dX0_halve_83 : decode cX0_halve 83 = .ok (.getfield 24, 3) := by decide +kernel
theorem dX0_halve_86 : decode cX0_halve 86 = .ok (.iload 4, 2) := by decide +kernel
theorem dX0_halve_88 : decode cX0_halve 88 = .ok (.ldc2_w 128, 3) := by decide +kernel
theorem dX0_halve_91 : decode cX0_halve 91 = .ok (.aload_n 0, 1) := by decide +kernel
theorem dX0_halve_92 : decode cX0_halve 92 = .ok (.getfield 21, 3) := by decide +kernel
theorem dX0_halve_95 : decode cX0_halve 95 = .ok (.iload 4, 2) := by decide +kernel
theorem dX0_halve_97 : decode cX0_halve 97 = .ok (.laload, 1) := by decide +kernel
theorem dX0_halve_98 : decode cX0_halve 98 = .ok (.lmul, 1) := by decide +kernel
theorem dX0_halve_99 : decode cX0_halve 99 = .ok (.lload 5, 2) := by decide +kernel
theorem dX0_halve_101 : decode cX0_halve 101 = .ok (.lmul, 1) := by decide +kernel
theorem dX0_halve_102 : decode cX0_halve 102 = .ok (.lload_n 2, 1) := by decide +kernel
theorem dX0_halve_103 : decode cX0_halve 103 = .ok (.aload_n 0, 1) := by decide +kernel
theorem dX0_halve_104 : decode cX0_halve 104 = .ok (.getfield 21, 3) := by decide +kernel
theorem dX0_halve_107 : decode cX0_halve 107 = .ok (.iload 4, 2) := by decide +kernel
theorem dX0_halve_109 : decode cX0_halve 109 = .ok (.laload, 1) := by decide +kernel
theorem dX0_halve_110 : decode cX0_halve 110 = .ok (.lsub, 1) := by decide +kernel
theorem dX0_halve_111 : decode cX0_halve 111 = .ok (.aload_n 0, 1) := by decide +kernel
theorem dX0_halve_112 : decode cX0_halve 112 = .ok (.getfield 15, 3) := by decide +kernel
theorem dX0_halve_115 : decode cX0_halve 115 = .ok (.iload_n 1, 1) := by decide +kernel
theorem dX0_halve_116 : decode cX0_halve 116 = .ok (.iload 4, 2) := by decide +kernel
theorem dX0_halve_118 : decode cX0_halve 118 = .ok (.iadd, 1) := by decide +kernel
theorem dX0_halve_119 : decode cX0_halve 119 = .ok (.laload, 1) := by decide +kernel
theorem dX0_halve_120 : decode cX0_halve 120 = .ok (.lmul, 1) := by decide +kernel
theorem dX0_halve_121 : decode cX0_halve 121 = .ok (.ladd, 1) := by decide +kernel
theorem dX0_halve_122 : decode cX0_halve 122 = .ok (.lastore, 1) := by decide +kernel
theorem dX0_halve_123 : decode cX0_halve 123 = .ok (.iinc 4 1, 3) := by decide +kernel
theorem dX0_halve_126 : decode cX0_halve 126 = .ok (.goto (-76), 3) := by decide +kernel
theorem dX0_halve_129 : decode cX0_halve 129 = .ok (.return_, 1) := by decide +kernel
theorem dX0_finish_0 : decode cX0_finish 0 = .ok (.aload_n 0, 1) := by decide +kernel
theorem dX0_finish_1 : decode cX0_finish 1 = .ok (.getfield 27, 3) := by decide +kernel
theorem dX0_finish_4 : decode cX0_finish 4 = .ok (.getfield 116, 3) := by decide +kernel
theorem dX0_finish_7 : decode cX0_finish 7 = .ok (.iconst 2, 1) := by decide +kernel
theorem dX0_finish_8 : decode cX0_finish 8 = .ok (.if_icmp .ne 4, 3) := by decide +kernel
theorem dX0_finish_11 : decode cX0_finish 11 = .ok (.return_, 1) := by decide +kernel
theorem dX0_finish_12 : decode cX0_finish 12 = .ok (.iconst 0, 1) := by decide +kernel
theorem dX0_finish_13 : decode cX0_finish 13 = .ok (.istore_n 1, 1) := by decide +kernel
theorem dX0_finish_14 : decode cX0_finish 14 = .ok (.iload_n 1, 1) := by decide +kernel
theorem dX0_finish_15 : decode cX0_finish 15 = .ok (.aload_n 0, 1) := by decide +kernel
theorem dX0_finish_16 : decode cX0_finish 16 = .ok (.getfield 27, 3) := by decide +kernel
theorem dX0_finish_19 : decode cX0_finish 19 = .ok (.getfield 91, 3) := by decide +kernel
theorem dX0_finish_22 : decode cX0_finish 22 = .ok (.if_icmp .ge 39, 3) := by decide +kernel
theorem dX0_finish_25 : decode cX0_finish 25 = .ok (.aload_n 0, 1) := by decide +kernel
theorem dX0_finish_26 : decode cX0_finish 26 = .ok (.getfield 24, 3) := by decide +kernel
theorem dX0_finish_29 : decode cX0_finish 29 = .ok (.iload_n 1, 1) := by decide +kernel
theorem dX0_finish_30 : decode cX0_finish 30 = .ok (.aload_n 0, 1) := by decide +kernel
theorem dX0_finish_31 : decode cX0_finish 31 = .ok (.getfield 18, 3) := by decide +kernel
theorem dX0_finish_34 : decode cX0_finish 34 = .ok (.iconst 4, 1) := by decide +kernel
theorem dX0_finish_35 : decode cX0_finish 35 = .ok (.aload_n 0, 1) := by decide +kernel
theorem dX0_finish_36 : decode cX0_finish 36 = .ok (.getfield 27, 3) := by decide +kernel
theorem dX0_finish_39 : decode cX0_finish 39 = .ok (.getfield 34, 3) := by decide +kernel
theorem dX0_finish_42 : decode cX0_finish 42 = .ok (.imul, 1) := by decide +kernel
theorem dX0_finish_43 : decode cX0_finish 43 = .ok (.iload_n 1, 1) := by decide +kernel
theorem dX0_finish_44 : decode cX0_finish 44 = .ok (.iadd, 1) := by decide +kernel
theorem dX0_finish_45 : decode cX0_finish 45 = .ok (.laload, 1) := by decide +kernel
theorem dX0_finish_46 : decode cX0_finish 46 = .ok (.aload_n 0, 1) := by decide +kernel
theorem dX0_finish_47 : decode cX0_finish 47 = .ok (.getfield 27, 3) := by decide +kernel
theorem dX0_finish_50 : decode cX0_finish 50 = .ok (.getfield 34, 3) := by decide +kernel
theorem dX0_finish_53 : decode cX0_finish 53 = .ok (.lshl, 1) := by decide +kernel
theorem dX0_finish_54 : decode cX0_finish 54 = .ok (.lastore, 1) := by decide +kernel
theorem dX0_finish_55 : decode cX0_finish 55 = .ok (.iinc 1 1, 3) := by decide +kernel
theorem dX0_finish_58 : decode cX0_finish 58 = .ok (.goto (-44), 3) := by decide +kernel
theorem dX0_finish_61 : decode cX0_finish 61 = .ok (.return_, 1) := by decide +kernel
theorem dX1_init_0 : decode cX1_init 0 = .ok (.aload_n 0, 1) := by decide +kernel
theorem dX1_init_1 : decode cX1_init 1 = .ok (.invokespecial 3, 3) := by decide +kernel
theorem dX1_init_4 : decode cX1_init 4 = .ok (.aload_n 0, 1) := by decide +kernel
theorem dX1_init_5 : decode cX1_init 5 = .ok (.bipush 16, 2) := by decide +kernel
theorem dX1_init_7 : decode cX1_init 7 = .ok (.newarray .int, 2) := by decide +kernel
theorem dX1_init_9 : decode cX1_init 9 = .ok (.putfield 9, 3) := by decide +kernel
theorem dX1_init_12 : decode cX1_init 12 = .ok (.aload_n 0, 1) := by decide +kernel
theorem dX1_init_13 : decode cX1_init 13 = .ok (.iconst 4, 1) := by decide +kernel
theorem dX1_init_14 : decode cX1_init 14 = .ok (.newarray .int, 2) := by decide +kernel
theorem dX1_init_16 : decode cX1_init 16 = .ok (.putfield 15, 3) := by decide +kernel
theorem dX1_init_19 : decode cX1_init 19 = .ok (.aload_n 0, 1) := by decide +kernel
theorem dX1_init_20 : decode cX1_init 20 = .ok (.iconst 4, 1) := by decide +kernel
theorem dX1_init_21 : decode cX1_init 21 = .ok (.newarray .int, 2) := by decide +kernel
theorem dX1_init_23 : decode cX1_init 23 = .ok (.putfield 18, 3) := by decide +kernel
theorem dX1_init_26 : decode cX1_init 26 = .ok (.aload_n 0, 1) := by decide +kernel
theorem dX1_init_27 : decode cX1_init 27 = .ok (.iconst 4, 1) := by decide +kernel
theorem dX1_init_28 : decode cX1_init 28 = .ok (.newarray .int, 2) := by decide +kernel
theorem dX1_init_30 : decode cX1_init 30 = .ok (.putfield 21, 3) := by decide +kernel
theorem dX1_init_33 : decode cX1_init 33 = .ok (.aload_n 0, 1) := by decide +kernel
theorem dX1_init_34 : decode cX1_init 34 = .ok (.aload_n 1, 1) := by decide +kernel
theorem dX1_init_35 : decode cX1_init 35 = .ok (.putfield 24, 3) := by decide +kernel
theorem dX1_init_38 : decode cX1_init 38 = .ok (.aload_n 0, 1) := by decide +kernel
theorem dX1_init_39 : decode cX1_init 39 = .ok (.aload_n 2, 1) := by decide +kernel
theorem dX1_init_40 : decode cX1_init 40 = .ok (.putfield 28, 3) := by decide +kernel
theorem dX1_init_43 : decode cX1_init 43 = .ok (.aload_n 0, 1) := by decide +kernel
theorem dX1_init_44 : decode cX1_init 44 = .ok (.aload_n 3, 1) := by decide +kernel
theorem dX1_init_45 : decode cX1_init 45 = .ok (.putfield 31, 3) := by decide +kernel
theorem dX1_init_48 : decode cX1_init 48 = .ok (.return_, 1) := by decide +kernel
theorem dX1_gather_0 : decode cX1_gather 0 = .ok (.aload_n 0, 1) := by decide +kernel
theorem dX1_gather_1 : decode cX1_gather 1 = .ok (.aload_n 0, 1) := by decide +kernel
theorem dX1_gather_2 : decode cX1_gather 2 = .ok (.getfield 24, 3) := by decide +kernel
theorem dX1_gather_5 : decode cX1_gather 5 = .ok (.getfield 34, 3) := by decide +kernel
theorem dX1_gather_8 : decode cX1_gather 8 = .ok (.putfield 40, 3) := by decide +kernel
theorem dX1_gather_11 : decode cX1_gather 11 = .ok (.aload_n 0, 1) := by decide +kernel
theorem dX1_gather_12 : decode cX1_gather 12 = .ok (.aload_n 0, 1) := by decide +kernel
theorem dX1_gather_13 : decode cX1_gather 13 = .ok (.getfield 24, 3) := by decide +kernel
theorem dX1_gather_16 : decode cX1_gather 16 = .ok (.getfield 41, 3) := by decide +kernel
theorem dX1_gather_19 : decode cX1_gather 19 = .ok (.putfield 44, 3) := by decide +kernel
theorem dX1_gather_22 : decode cX1_gather 22 = .ok (.aload_n 0, 1) := by decide +kernel
theorem dX1_gather_23 : decode cX1_gather 23 = .ok (.aload_n 0, 1) := by decide +kernel
theorem dX1_gather_24 : decode cX1_gather 24 = .ok (.getfield 24, 3) := by decide +kernel
theorem dX1_gather_27 : decode cX1_gather 27 = .ok (.getfield 45, 3) := by decide +kernel
theorem dX1_gather_30 : decode cX1_gather 30 = .ok (.iconst 0, 1) := by decide +kernel
theorem dX1_gather_31 : decode cX1_gather 31 = .ok (.iaload, 1) := by decide +kernel
theorem dX1_gather_32 : decode cX1_gather 32 = .ok (.putfield 48, 3) := by decide +kernel
theorem dX1_gather_35 : decode cX1_gather 35 = .ok (.aload_n 0, 1) := by decide +kernel
theorem dX1_gather_36 : decode cX1_gather 36 = .ok (.aload_n 0, 1) := by decide +kernel
theorem dX1_gather_37 : decode cX1_gather 37 = .ok (.getfield 24, 3) := by decide +kernel
theorem dX1_gather_40 : decode cX1_gather 40 = .ok (.getfield 45, 3) := by decide +kernel
theorem dX1_gather_43 : decode cX1_gather 43 = .ok (.iconst 1, 1) := by decide +kernel
theorem dX1_gather_44 : decode cX1_gather 44 = .ok (.iaload, 1) := by decide +kernel
theorem dX1_gather_45 : decode cX1_gather 45 = .ok (.putfield 51, 3) := by decide +kernel
theorem dX1_gather_48 : decode cX1_gather 48 = .ok (.aload_n 0, 1) := by decide +kernel
theorem dX1_gather_49 : decode cX1_gather 49 = .ok (.aload_n 0, 1) := by decide +kernel
theorem dX1_gather_50 : decode cX1_gather 50 = .ok (.getfield 24, 3) := by decide +kernel
theorem dX1_gather_53 : decode cX1_gather 53 = .ok (.getfield 45, 3) := by decide +kernel
theorem dX1_gather_56 : decode cX1_gather 56 = .ok (.iconst 2, 1) := by decide +kernel
theorem dX1_gather_57 : decode cX1_gather 57 = .ok (.iaload, 1) := by decide +kernel
theorem dX1_gather_58 : decode cX1_gather 58 = .ok (.putfield 54, 3) := by decide +kernel
theorem dX1_gather_61 : decode cX1_gather 61 = .ok (.aload_n 0, 1) := by decide +kernel
theorem dX1_gather_62 : decode cX1_gather 62 = .ok (.iconst 0, 1) := by decide +kernel
theorem dX1_gather_63 : decode cX1_gather 63 = .ok (.putfield 57, 3) := by decide +kernel
theorem dX1_gather_66 : decode cX1_gather 66 = .ok (.aload_n 0, 1) := by decide +kernel
theorem dX1_gather_67 : decode cX1_gather 67 = .ok (.getfield 24, 3) := by decide +kernel
theorem dX1_gather_70 : decode cX1_gather 70 = .ok (.getfield 60, 3) := by decide +kernel
theorem dX1_gather_73 : decode cX1_gather 73 = .ok (.iconst 0, 1) := by decide +kernel
theorem dX1_gather_74 : decode cX1_gather 74 = .ok (.aload_n 0, 1) := by decide +kernel
theorem dX1_gather_75 : decode cX1_gather 75 = .ok (.getfield 9, 3) := by decide +kernel
theorem dX1_gather_78 : decode cX1_gather 78 = .ok (.iconst 0, 1) := by decide +kernel
theorem dX1_gather_79 : decode cX1_gather 79 = .ok (.bipush 16, 2) := by decide +kernel
theorem dX1_gather_81 : decode cX1_gather 81 = .ok (.invokestatic 61, 3) := by decide +kernel
theorem dX1_gather_84 : decode cX1_gather 84 = .ok (.aload_n 0, 1) := by decide +kernel
theorem dX1_gather_85 : decode cX1_gather 85 = .ok (.getfield 24, 3) := by decide +kernel
theorem dX1_gather_88 : decode cX1_gather 88 = .ok (.getfield 67, 3) := by decide +kernel
theorem dX1_gather_91 : decode cX1_gather 91 = .ok (.iconst 0, 1) := by decide +kernel
theorem dX1_gather_92 : decode cX1_gather 92 = .ok (.aload_n 0, 1) := by decide +kernel
theorem dX1_gather_93 : decode cX1_gather 93 = .ok (.getfield 15, 3) := by decide +kernel
theorem dX1_gather_96 : decode cX1_gather 96 = .ok (.iconst 0, 1) := by decide +kernel
theorem dX1_gather_97 : decode cX1_gather 97 = .ok (.iconst 4, 1) := by decide +kernel
theorem dX1_gather_98 : decode cX1_gather 98 = .ok (.invokestatic 61, 3) := by decide +kernel
theorem dX1_gather_101 : decode cX1_gather 101 = .ok (.aload_n 0, 1) := by decide +kernel
theorem dX1_gather_102 : decode cX1_gather 102 = .ok (.getfield 28, 3) := by decide +kernel
theorem dX1_gather_105 : decode cX1_gather 105 = .ok (.iconst 0, 1) := by decide +kernel
theorem dX1_gather_106 : decode cX1_gather 106 = .ok (.aload_n 0, 1) := by decide +kernel
theorem dX1_gather_107 : decode cX1_gather 107 = .ok (.getfield 18, 3) := by decide +kernel
theorem dX1_gather_110 : decode cX1_gather 110 = .ok (.iconst 0, 1) := by decide +kernel
theorem dX1_gather_111 : decode cX1_gather 111 = .ok (.iconst 4, 1) := by decide +kernel
theorem dX1_gather_112 : decode cX1_gather 112 = .ok (.invokestatic 61, 3) := by decide +kernel
theorem dX1_gather_115 : decode cX1_gather 115 = .ok (.aload_n 0, 1) := by decide +kernel
theorem dX1_gather_116 : decode cX1_gather 116 = .ok (.getfield 31, 3) := by decide +kernel
theorem dX1_gather_119 : decode cX1_gather 119 = .ok (.iconst 0, 1) := by decide +kernel
theorem dX1_gather_120 : decode cX1_gather 120 = .ok (.aload_n 0, 1) := by decide +kernel
theorem dX1_gather_121 : decode cX1_gather 121 = .ok (.getfield 21, 3) := by decide +kernel
theorem dX1_gather_124 : decode cX1_gather 124 = .ok (.iconst 0, 1) := by decide +kernel
theorem dX1_gather_125 : decode cX1_gather 125 = .ok (.iconst 4, 1) := by decide +kernel
theorem dX1_gather_126 : decode cX1_gather 126 = .ok (.invokestatic 61, 3) := by decide +kernel
theorem dX1_gather_129 : decode cX1_gather 129 = .ok (.return_, 1) := by decide +kernel
theorem dX1_seatOneMore_0 : decode cX1_seatOneMore 0 = .ok (.aload_n 0, 1) := by decide +kernel
theorem dX1_seatOneMore_1 : decode cX1_seatOneMore 1 = .ok (.getfield 40, 3) := by decide +kernel
theorem dX1_seatOneMore_4 : decode cX1_seatOneMore 4 = .ok (.iconst 4, 1) := by decide +kernel
theorem dX1_seatOneMore_5 : decode cX1_seatOneMore 5 = .ok (.if_icmp .lt 4, 3) := by decide +kernel
theorem dX1_seatOneMore_8 : decode cX1_seatOneMore 8 = .ok (.return_, 1) := by decide +kernel
theorem dX1_seatOneMore_9 : decode cX1_seatOneMore 9 = .ok (.aload_n 0, 1) := by decide +kernel
theorem dX1_seatOneMore_10 : decode cX1_seatOneMore 10 = .ok (.getfield 9, 3) := by decide +kernel
theorem dX1_seatOneMore_13 : decode cX1_seatOneMore 13 = .ok (.iconst 4, 1) := by decide +kernel
theorem dX1_seatOneMore_14 : decode cX1_seatOneMore 14 = .ok (.aload_n 0, 1) := by decide +kernel
theorem dX1_seatOneMore_15 : decode cX1_seatOneMore 15 = .ok (.getfield 40, 3) := by decide +kernel
theorem dX1_seatOneMore_18 : decode cX1_seatOneMore 18 = .ok (.imul, 1) := by decide +kernel
theorem dX1_seatOneMore_19 : decode cX1_seatOneMore 19 = .ok (.iconst 0, 1) := by decide +kernel
theorem dX1_seatOneMore_20 : decode cX1_seatOneMore 20 = .ok (.iadd, 1) := by decide +kernel
theorem dX1_seatOneMore_21 : decode cX1_seatOneMore 21 = .ok (.iload_n 1, 1) := by decide +kernel
theorem dX1_seatOneMore_22 : decode cX1_seatOneMore 22 = .ok (.iastore, 1) := by decide +kernel
theorem dX1_seatOneMore_23 : decode cX1_seatOneMore 23 = .ok (.aload_n 0, 1) := by decide +kernel
theorem dX1_seatOneMore_24 : decode cX1_seatOneMore 24 = .ok (.getfield 18, 3) := by decide +kernel
theorem dX1_seatOneMore_27 : decode cX1_seatOneMore 27 = .ok (.aload_n 0, 1) := by decide +kernel
theorem dX1_seatOneMore_28 : decode cX1_seatOneMore 28 = .ok (.getfield 40, 3) := by decide +kernel
theorem dX1_seatOneMore_31 : decode cX1_seatOneMore 31 = .ok (.iconst 0, 1) := by decide +kernel
theorem dX1_seatOneMore_32 : decode cX1_seatOneMore 32 = .ok (.iastore, 1) := by decide +kernel
theorem dX1_seatOneMore_33 : decode cX1_seatOneMore 33 = .ok (.aload_n 0, 1) := by decide +kernel
theorem dX1_seatOneMore_34 : decode cX1_seatOneMore 34 = .ok (.getfield 21, 3) := by decide +kernel
theorem dX1_seatOneMore_37 : decode cX1_seatOneMore 37 = .ok (.aload_n 0, 1) := by decide +kernel
theorem dX1_seatOneMore_38 : decode cX1_seatOneMore 38 = .ok (.getfield 40, 3) := by decide +kernel
theorem dX1_seatOneMore_41 : decode cX1_seatOneMore 41 = .ok (.iconst 4, 1) := by decide +kernel
theorem dX1_seatOneMore_42 : decode cX1_seatOneMore 42 = .ok (.iastore, 1) := by decide +kernel
theorem dX1_seatOneMore_43 : decode cX1_seatOneMore 43 = .ok (.aload_n 0, 1) := by decide +kernel
theorem dX1_seatOneMore_44 : decode cX1_seatOneMore 44 = .ok (.dup, 1) := by decide +kernel
theorem dX1_seatOneMore_45 : decode cX1_seatOneMore 45 = .ok (.getfield 40, 3) := by decide +kernel
theorem dX1_seatOneMore_48 : decode cX1_seatOneMore 48 = .ok (.iconst 1, 1) := by decide +kernel
theorem dX1_seatOneMore_49 : decode cX1_seatOneMore 49 = .ok (.iadd, 1) := by decide +kernel
theorem dX1_seatOneMore_50 : decode cX1_seatOneMore 50 = .ok (.putfield 40, 3) := by decide +kernel
theorem dX1_seatOneMore_53 : decode cX1_seatOneMore 53 = .ok (.return_, 1) := by decide +kernel
theorem dX1_isThere_0 : decode cX1_isThere 0 = .ok (.iload_n 2, 1) := by decide +kernel
theorem dX1_isThere_1 : decode cX1_isThere 1 = .ok (.aload_n 0, 1) := by decide +kernel
theorem dX1_isThere_2 : decode cX1_isThere 2 = .ok (.getfield 21, 3) := by decide +kernel
theorem dX1_isThere_5 : decode cX1_isThere 5 = .ok (.iload_n 1, 1) := by decide +kernel
theorem dX1_isThere_6 : decode cX1_isThere 6 = .ok (.iaload, 1) := by decide +kernel
theorem dX1_isThere_7 : decode cX1_isThere 7 = .ok (.if_icmp .ge 18, 3) := by decide +kernel
theorem dX1_isThere_10 : decode cX1_isThere 10 = .ok (.aload_n 0, 1) := by decide +kernel
theorem dX1_isThere_11 : decode cX1_isThere 11 = .ok (.getfield 57, 3) := by decide +kernel
theorem dX1_isThere_14 : decode cX1_isThere 14 = .ok (.iload_n 1, 1) := by decide +kernel
theorem dX1_isThere_15 : decode cX1_isThere 15 = .ok (.ishr, 1) := by decide +kernel
theorem dX1_isThere_16 : decode cX1_isThere 16 = .ok (.iconst 1, 1) := by decide +kernel
theorem dX1_isThere_17 : decode cX1_isThere 17 = .ok (.iand, 1) := by decide +kernel
theorem dX1_isThere_18 : decode cX1_isThere 18 = .ok (.ifCond .ne 7, 3) := by decide +kernel
theorem dX1_isThere_21 : decode cX1_isThere 21 = .ok (.iconst 1, 1) := by decide +kernel
theorem dX1_isThere_22 : decode cX1_isThere 22 = .ok (.goto 4, 3) := by decide +kernel
theorem dX1_isThere_25 : decode cX1_isThere 25 = .ok (.iconst 0, 1) := by decide +kernel
theorem dX1_isThere_26 : decode cX1_isThere 26 = .ok (.ireturn, 1) := by decide +kernel
theorem dX1_quartersAt_0 : decode cX1_quartersAt 0 = .ok (.aload_n 0, 1) := by decide +kernel
theorem dX1_quartersAt_1 : decode cX1_quartersAt 1 = .ok (.iload_n 1, 1) := by decide +kernel
theorem dX1_quartersAt_2 : decode cX1_quartersAt 2 = .ok (.iload_n 2, 1) := by decide +kernel
theorem dX1_quartersAt_3 : decode cX1_quartersAt 3 = .ok (.invokevirtual 68, 3) := by decide +kernel
theorem dX1_quartersAt_6 : decode cX1_quartersAt 6 = .ok (.ifCond .ne 5, 3) := by decide +kernel
theorem dX1_quartersAt_9 : decode cX1_quartersAt 9 = .ok (.iconst 0, 1) := by decide +kernel
theorem dX1_quartersAt_10 : decode cX1_quartersAt 10 = .ok (.ireturn, 1) := by decide +kernel
theorem dX1_quartersAt_11 : decode cX1_quartersAt 11 = .ok (.iload_n 2, 1) := by decide +kernel
theorem dX1_quartersAt_12 : decode cX1_quartersAt 12 = .ok (.ifCond .ne 7, 3) := by decide +kernel
theorem dX1_quartersAt_15 : decode cX1_quartersAt 15 = .ok (.iconst 0, 1) := by decide +kernel
theorem dX1_quartersAt_16 : decode cX1_quartersAt 16 = .ok (.goto 13, 3) := by decide +kernel
theorem dX1_quartersAt_19 : decode cX1_quartersAt 19 = .ok (.aload_n 0, 1) := by decide +kernel
theorem dX1_quartersAt_20 : decode cX1_quartersAt 20 = .ok (.getfield 15, 3) := by decide +kernel
theorem dX1_quartersAt_23 : decode cX1_quartersAt 23 = .ok (.iload_n 2, 1) := by decide +kernel
theorem dX1_quartersAt_24 : decode cX1_quartersAt 24 = .ok (.iconst 1, 1) := by decide +kernel
theorem dX1_quartersAt_25 : decode cX1_quartersAt 25 = .ok (.isub, 1) := by decide +kernel
theorem dX1_quartersAt_26 : decode cX1_quartersAt 26 = .ok (.iaload, 1) := by decide +kernel
theorem dX1_quartersAt_27 : decode cX1_quartersAt 27 = .ok (.iconst 2, 1) := by decide +kernel
theorem dX1_quartersAt_28 : decode cX1_quartersAt 28 = .ok (.idiv, 1) := by decide +kernel
theorem dX1_quartersAt_29 : decode cX1_quartersAt 29 = .ok (.istore_n 3, 1) := by decide +kernel
theorem dX1_quartersAt_30 : decode cX1_quartersAt 30 = .ok (.aload_n 0, 1) := by decide +kernel
theorem dX1_quartersAt_31 : decode cX1_quartersAt 31 = .ok (.getfield 9, 3) := by decide +kernel
theorem dX1_quartersAt_34 : decode cX1_quartersAt 34 = .ok (.iconst 4, 1) := by decide +kernel
theorem dX1_quartersAt_35 : decode cX1_quartersAt 35 = .ok (.iload_n 1, 1) := by decide +kernel
theorem dX1_quartersAt_36 : decode cX1_quartersAt 36 = .ok (.imul, 1) := by decide +kernel
theorem dX1_quartersAt_37 : decode cX1_quartersAt 37 = .ok (.iconst 0, 1) := by decide +kernel
theorem dX1_quartersAt_38 : decode cX1_quartersAt 38 = .ok (.iadd, 1) := by decide +kernel
theorem dX1_quartersAt_39 : decode cX1_quartersAt 39 = .ok (.iaload, 1) := by decide +kernel
theorem dX1_quartersAt_40 : decode cX1_quartersAt 40 = .ok (.aload_n 0, 1) := by decide +kernel
theorem dX1_quartersAt_41 : decode cX1_quartersAt 41 = .ok (.getfield 15, 3) := by decide +kernel
theorem dX1_quartersAt_44 : decode cX1_quartersAt 44 = .ok (.iload_n 2, 1) := by decide +kernel
theorem dX1_quartersAt_45 : decode cX1_quartersAt 45 = .ok (.iaload, 1) := by decide +kernel
theorem dX1_quartersAt_46 : decode cX1_quartersAt 46 = .ok (.iload_n 3, 1) := by decide +kernel
theorem dX1_quartersAt_47 : decode cX1_quartersAt 47 = .ok (.aload_n 0, 1) := by decide +kernel
theorem dX1_quartersAt_48 : decode cX1_quartersAt 48 = .ok (.getfield 18, 3) := by decide +kernel
theorem dX1_quartersAt_51 : decode cX1_quartersAt 51 = .ok (.iload_n 1, 1) := by decide +kernel
theorem dX1_quartersAt_52 : decode cX1_quartersAt 52 = .ok (.iaload, 1) := by decide +kernel
theorem dX1_quartersAt_53 : decode cX1_quartersAt 53 = .ok (.iload_n 2, 1) := by decide +kernel
theorem dX1_quartersAt_54 : decode cX1_quartersAt 54 = .ok (.invokestatic 72, 3) := by decide +kernel
theorem dX1_quartersAt_57 : decode cX1_quartersAt 57 = .ok (.invokestatic 75, 3) := by decide +kernel
theorem dX1_quartersAt_60 : decode cX1_quartersAt 60 = .ok (.ireturn, 1) := by decide +kernel
theorem dX1_feesOf_0 : decode cX1_feesOf 0 = .ok (.aload_n 0, 1) := by decide +kernel
theorem dX1_feesOf_1 : decode cX1_feesOf 1 = .ok (.getfield 21, 3) := by decide +kernel
theorem dX1_feesOf_4 : decode cX1_feesOf 4 = .ok (.iload_n 1, 1) := by decide +kernel
theorem dX1_feesOf_5 : decode cX1_feesOf 5 = .ok (.iaload, 1) := by decide +kernel
theorem dX1_feesOf_6 : decode cX1_feesOf 6 = .ok (.aload_n 0, 1) := by decide +kernel
theorem dX1_feesOf_7 : decode cX1_feesOf 7 = .ok (.getfield 44, 3) := by decide +kernel
theorem dX1_feesOf_10 : decode cX1_feesOf 10 = .ok (.if_icmp .ge 16, 3) := by decide +kernel
theorem dX1_feesOf_13 : decode cX1_feesOf 13 = .ok (.aload_n 0, 1) := by decide +kernel
theorem dX1_feesOf_14 : decode cX1_feesOf 14 = .ok (.getfield 9, 3) := by decide +kernel
theorem dX1_feesOf_17 : decode cX1_feesOf 17 = .ok (.iconst 4, 1) := by decide +kernel
theorem dX1_feesOf_18 : decode cX1_feesOf 18 = .ok (.iload_n 1, 1) := by decide +kernel
theorem dX1_feesOf_19 : decode cX1_feesOf 19 = .ok (.imul, 1) := by decide +kernel
theorem dX1_feesOf_20 : decode cX1_feesOf 20 = .ok (.iconst 2, 1) := by decide +kernel
theorem dX1_feesOf_21 : decode cX1_feesOf 21 = .ok (.iadd, 1) := by decide +kernel
theorem dX1_feesOf_22 : decode cX1_feesOf 22 = .ok (.iaload, 1) := by decide +kernel
theorem dX1_feesOf_23 : decode cX1_feesOf 23 = .ok (.goto 4, 3) := by decide +kernel
theorem dX1_feesOf_26 : decode cX1_feesOf 26 = .ok (.iconst 0, 1) := by decide +kernel
theorem dX1_feesOf_27 : decode cX1_feesOf 27 = .ok (.istore_n 2, 1) := by decide +kernel
theorem dX1_feesOf_28 : decode cX1_feesOf 28 = .ok (.iconst 0, 1) := by decide +kernel
theorem dX1_feesOf_29 : decode cX1_feesOf 29 = .ok (.istore_n 3, 1) := by decide +kernel
theorem dX1_feesOf_30 : decode cX1_feesOf 30 = .ok (.iload_n 3, 1) := by decide +kernel
theorem dX1_feesOf_31 : decode cX1_feesOf 31 = .ok (.aload_n 0, 1) := by decide +kernel
theorem dX1_feesOf_32 : decode cX1_feesOf 32 = .ok (.getfield 44, 3) := by decide +kernel
theorem dX1_feesOf_35 : decode cX1_feesOf 35 = .ok (.if_icmp .ge 44, 3) := by decide +kernel
theorem dX1_feesOf_38 : decode cX1_feesOf 38 = .ok (.aload_n 0, 1) := by decide +kernel
theorem dX1_feesOf_39 : decode cX1_feesOf 39 = .ok (.iload_n 1, 1) := by decide +kernel
theorem dX1_feesOf_40 : decode cX1_feesOf 40 = .ok (.iload_n 3, 1) := by decide +kernel
theorem dX1_feesOf_41 : decode cX1_feesOf 41 = .ok (.invokevirtual 68, 3) := by decide +kernel
theorem dX1_feesOf_44 : decode cX1_feesOf 44 = .ok (.ifCond .eq 29, 3) := by decide +kernel
theorem dX1_feesOf_47 : decode cX1_feesOf 47 = .ok (.aload_n 0, 1) := by decide +kernel
theorem dX1_feesOf_48 : decode cX1_feesOf 48 = .ok (.getfield 18, 3) := by decide +kernel
theorem dX1_feesOf_51 : decode cX1_feesOf 51 = .ok (.iload_n 1, 1) := by decide +kernel
theorem dX1_feesOf_52 : decode cX1_feesOf 52 = .ok (.iaload, 1) := by decide +kernel
theorem dX1_feesOf_53 : decode cX1_feesOf 53 = .ok (.iload_n 3, 1) := by decide +kernel
theorem dX1_feesOf_54 : decode cX1_feesOf 54 = .ok (.invokestatic 72, 3) := by decide +kernel
theorem dX1_feesOf_57 : decode cX1_feesOf 57 = .ok (.ifCond .eq 16, 3) := by decide +kernel
theorem dX1_feesOf_60 : decode cX1_feesOf 60 = .ok (.iload_n 2, 1) := by decide +kernel
theorem dX1_feesOf_61 : decode cX1_feesOf 61 = .ok (.aload_n 0, 1) := by decide +kernel
theorem dX1_feesOf_62 : decode cX1_feesOf 62 = .ok (.getfield 9, 3) := by decide +kernel
theorem dX1_feesOf_65 : decode cX1_feesOf 65 = .ok (.iconst 4, 1) := by decide +kernel
theorem dX1_feesOf_66 : decode cX1_feesOf 66 = .ok (.iload_n 1, 1) := by decide +kernel
theorem dX1_feesOf_67 : decode cX1_feesOf 67 = .ok (.imul, 1) := by decide +kernel
theorem dX1_feesOf_68 : decode cX1_feesOf 68 = .ok (.iconst 1, 1) := by decide +kernel
theorem dX1_feesOf_69 : decode cX1_feesOf 69 = .ok (.iadd, 1) := by decide +kernel
theorem dX1_feesOf_70 : decode cX1_feesOf 70 = .ok (.iaload, 1) := by decide +kernel
theorem dX1_feesOf_71 : decode cX1_feesOf 71 = .ok (.iadd, 1) := by decide +kernel
theorem dX1_feesOf_72 : decode cX1_feesOf 72 = .ok (.istore_n 2, 1) := by decide +kernel
theorem dX1_feesOf_73 : decode cX1_feesOf 73 = .ok (.iinc 3 1, 3) := by decide +kernel
theorem dX1_feesOf_76 : decode cX1_feesOf 76 = .ok (.goto (-46), 3) := by decide +kernel
theorem dX1_feesOf_79 : decode cX1_feesOf 79 = .ok (.iload_n 2, 1) := by decide +kernel
theorem dX1_feesOf_80 : decode cX1_feesOf 80 = .ok (.ireturn, 1) := by decide +kernel
theorem dX2_init_0 : decode cX2_init 0 = .ok (.aload_n 0, 1) := by decide +kernel
theorem dX2_init_1 : decode cX2_init 1 = .ok (.invokespecial 3, 3) := by decide +kernel
theorem dX2_init_4 : decode cX2_init 4 = .ok (.return_, 1) := by decide +kernel
theorem dX2_endOfEvening_0 : decode cX2_endOfEvening 0 = .ok (.aload_n 1, 1) := by decide +kernel
theorem dX2_endOfEvening_1 : decode cX2_endOfEvening 1 = .ok (.getfield 9, 3) := by decide +kernel
theorem dX2_endOfEvening_4 : decode cX2_endOfEvening 4 = .ok (.istore_n 2, 1) := by decide +kernel
theorem dX2_endOfEvening_5 : decode cX2_endOfEvening 5 = .ok (.iconst 0, 1) := by decide +kernel
theorem dX2_endOfEvening_6 : decode cX2_endOfEvening 6 = .ok (.istore_n 3, 1) := by decide +kernel
theorem dX2_endOfEvening_7 : decode cX2_endOfEvening 7 = .ok (.iconst 0, 1) := by decide +kernel
theorem dX2_endOfEvening_8 : decode cX2_endOfEvening 8 = .ok (.istore 4, 2) := by decide +kernel
theorem dX2_endOfEvening_10 : decode cX2_endOfEvening 10 = .ok (.iload 4, 2) := by decide +kernel
theorem dX2_endOfEvening_12 : decode cX2_endOfEvening 12 = .ok (.aload_n 1, 1) := by decide +kernel
theorem dX2_endOfEvening_13 : decode cX2_endOfEvening 13 = .ok (.getfield 15, 3) := by decide +kernel
theorem dX2_endOfEvening_16 : decode cX2_endOfEvening 16 = .ok (.if_icmp .ge 49, 3) := by decide +kernel
theorem dX2_endOfEvening_19 : decode cX2_endOfEvening 19 = .ok (.aload_n 0, 1) := by decide +kernel
theorem dX2_endOfEvening_20 : decode cX2_endOfEvening 20 = .ok (.aload_n 1, 1) := by decide +kernel
theorem dX2_endOfEvening_21 : decode cX2_endOfEvening 21 = .ok (.getfield 18, 3) := by decide +kernel
theorem dX2_endOfEvening_24 : decode cX2_endOfEvening 24 = .ok (.aload_n 0, 1) := by decide +kernel
theorem dX2_endOfEvening_25 : decode cX2_endOfEvening 25 = .ok (.aload_n 1, 1) := by decide +kernel
theorem dX2_endOfEvening_26 : decode cX2_endOfEvening 26 = .ok (.iload 4, 2) := by decide +kernel
theorem dX2_endOfEvening_28 : decode cX2_endOfEvening 28 = .ok (.invokevirtual 21, 3) := by decide +kernel
theorem dX2_endOfEvening_31 : decode cX2_endOfEvening 31 = .ok (.invokevirtual 27, 3) := by decide +kernel
theorem dX2_endOfEvening_34 : decode cX2_endOfEvening 34 = .ok (.istore 5, 2) := by decide +kernel
theorem dX2_endOfEvening_36 : decode cX2_endOfEvening 36 = .ok (.iload 5, 2) := by decide +kernel
theorem dX2_endOfEvening_38 : decode cX2_endOfEvening 38 = .ok (.iconst (-1), 1) := by decide +kernel
theorem dX2_endOfEvening_39 : decode cX2_endOfEvening 39 = .ok (.if_icmp .eq 20, 3) := by decide +kernel
theorem dX2_endOfEvening_42 : decode cX2_endOfEvening 42 = .ok (.iload_n 3, 1) := by decide +kernel
theorem dX2_endOfEvening_43 : decode cX2_endOfEvening 43 = .ok (.ifCond .eq 11, 3) := by decide +kernel
theorem dX2_endOfEvening_46 : decode cX2_endOfEvening 46 = .ok (.aload_n 1, 1) := by decide +kernel
theorem dX2_endOfEvening_47 : decode cX2_endOfEvening 47 = .ok (.getfield 31, 3) := by decide +kernel
theorem dX2_endOfEvening_50 : decode cX2_endOfEvening 50 = .ok (.iconst 1, 1) := by decide +kernel
theorem dX2_endOfEvening_51 : decode cX2_endOfEvening 51 = .ok (.if_icmp .eq 8, 3) := by decide +kernel
theorem dX2_endOfEvening_54 : decode cX2_endOfEvening 54 = .ok (.iload 5, 2) := by decide +kernel
theorem dX2_endOfEvening_56 : decode cX2_endOfEvening 56 = .ok (.istore_n 2, 1) := by decide +kernel
theorem dX2_endOfEvening_57 : decode cX2_endOfEvening 57 = .ok (.iconst 1, 1) := by decide +kernel
theorem dX2_endOfEvening_58 : decode cX2_endOfEvening 58 = .ok (.istore_n 3, 1) := by decide +kernel
theorem dX2_endOfEvening_59 : decode cX2_endOfEvening 59 = .ok (.iinc 4 1, 3) := by decide +kernel
theorem dX2_endOfEvening_62 : decode cX2_endOfEvening 62 = .ok (.goto (-52), 3) := by decide +kernel
theorem dX2_endOfEvening_65 : decode cX2_endOfEvening 65 = .ok (.iload_n 2, 1) := by decide +kernel
theorem dX2_endOfEvening_66 : decode cX2_endOfEvening 66 = .ok (.ireturn, 1) := by decide +kernel
theorem dX2_laughing_0 : decode cX2_laughing 0 = .ok (.iconst 0, 1) := by decide +kernel
theorem dX2_laughing_1 : decode cX2_laughing 1 = .ok (.istore_n 3, 1) := by decide +kernel
theorem dX2_laughing_2 : decode cX2_laughing 2 = .ok (.iconst 0, 1) := by decide +kernel
theorem dX2_laughing_3 : decode cX2_laughing 3 = .ok (.istore 4, 2) := by decide +kernel
theorem dX2_laughing_5 : decode cX2_laughing 5 = .ok (.iload 4, 2) := by decide +kernel
theorem dX2_laughing_7 : decode cX2_laughing 7 = .ok (.aload_n 1, 1) := by decide +kernel
theorem dX2_laughing_8 : decode cX2_laughing 8 = .ok (.getfield 34, 3) := by decide +kernel
theorem dX2_laughing_11 : decode cX2_laughing 11 = .ok (.if_icmp .ge 41, 3) := by decide +kernel
theorem dX2_laughing_14 : decode cX2_laughing 14 = .ok (.aload_n 1, 1) := by decide +kernel
theorem dX2_laughing_15 : decode cX2_laughing 15 = .ok (.iload 4, 2) := by decide +kernel
theorem dX2_laughing_17 : decode cX2_laughing 17 = .ok (.iload_n 2, 1) := by decide +kernel
theorem dX2_laughing_18 : decode cX2_laughing 18 = .ok (.invokevirtual 37, 3) := by decide +kernel
theorem dX2_laughing_21 : decode cX2_laughing 21 = .ok (.ifCond .eq 25, 3) := by decide +kernel
theorem dX2_laughing_24 : decode cX2_laughing 24 = .ok (.aload_n 0, 1) := by decide +kernel
theorem dX2_laughing_25 : decode cX2_laughing 25 = .ok (.iconst 4, 1) := by decide +kernel
theorem dX2_laughing_26 : decode cX2_laughing 26 = .ok (.invokevirtual 41, 3) := by decide +kernel
theorem dX2_laughing_29 : decode cX2_laughing 29 = .ok (.aload_n 1, 1) := by decide +kernel
theorem dX2_laughing_30 : decode cX2_laughing 30 = .ok (.iload 4, 2) := by decide +kernel
theorem dX2_laughing_32 : decode cX2_laughing 32 = .ok (.iload_n 2, 1) := by decide +kernel
theorem dX2_laughing_33 : decode cX2_laughing 33 = .ok (.invokevirtual 45, 3) := by decide +kernel
theorem dX2_laughing_36 : decode cX2_laughing 36 = .ok (.if_icmp .ge 10, 3) := by decide +kernel
theorem dX2_laughing_39 : decode cX2_laughing 39 = .ok (.iload_n 3, 1) := by decide +kernel
theorem dX2_laughing_40 : decode cX2_laughing 40 = .ok (.iconst 1, 1) := by decide +kernel
theorem dX2_laughing_41 : decode cX2_laughing 41 = .ok (.iload 4, 2) := by decide +kernel
theorem dX2_laughing_43 : decode cX2_laughing 43 = .ok (.ishl, 1) := by decide +kernel
theorem dX2_laughing_44 : decode cX2_laughing 44 = .ok (.ior, 1) := by decide +kernel
theorem dX2_laughing_45 : decode cX2_laughing 45 = .ok (.istore_n 3, 1) := by decide +kernel
theorem dX2_laughing_46 : decode cX2_laughing 46 = .ok (.iinc 4 1, 3) := by decide +kernel
theorem dX2_laughing_49 : decode cX2_laughing 49 = .ok (.goto (-44), 3) := by decide +kernel
theorem dX2_laughing_52 : decode cX2_laughing 52 = .ok (.iload_n 3, 1) := by decide +kernel
theorem dX2_laughing_53 : decode cX2_laughing 53 = .ok (.ireturn, 1) := by decide +kernel
theorem dX2_takerOf_0 : decode cX2_takerOf 0 = .ok (.iload_n 2, 1) := by decide +kernel
theorem dX2_takerOf_1 : decode cX2_takerOf 1 = .ok (.invokestatic 48, 3) := by decide +kernel
theorem dX2_takerOf_4 : decode cX2_takerOf 4 = .ok (.istore_n 3, 1) := by decide +kernel
theorem dX2_takerOf_5 : decode cX2_takerOf 5 = .ok (.iload_n 3, 1) := by decide +kernel
theorem dX2_takerOf_6 : decode cX2_takerOf 6 = .ok (.iconst 1, 1) := by decide +kernel
theorem dX2_takerOf_7 : decode cX2_takerOf 7 = .ok (.if_icmp .le 9, 3) := by decide +kernel
theorem dX2_takerOf_10 : decode cX2_takerOf 10 = .ok (.iload_n 1, 1) := by decide +kernel
theorem dX2_takerOf_11 : decode cX2_takerOf 11 = .ok (.ifCond .ne 5, 3) := by decide +kernel
theorem dX2_takerOf_14 : decode cX2_takerOf 14 = .ok (.iconst (-1), 1) := by decide +kernel
theorem dX2_takerOf_15 : decode cX2_takerOf 15 = .ok (.ireturn, 1) := by decide +kernel
theorem dX2_takerOf_16 : decode cX2_takerOf 16 = .ok (.iload_n 3, 1) := by decide +kernel
theorem dX2_takerOf_17 : decode cX2_takerOf 17 = .ok (.iconst 1, 1) := by decide +kernel
theorem dX2_takerOf_18 : decode cX2_takerOf 18 = .ok (.if_icmp .le 16, 3) := by decide +kernel
theorem dX2_takerOf_21 : decode cX2_takerOf 21 = .ok (.iload_n 1, 1) := by decide +kernel
theorem dX2_takerOf_22 : decode cX2_takerOf 22 = .ok (.iconst 2, 1) := by decide +kernel
theorem dX2_takerOf_23 : decode cX2_takerOf 23 = .ok (.if_icmp .ne 11, 3) := by decide +kernel
theorem dX2_takerOf_26 : decode cX2_takerOf 26 = .ok (.aload_n 0, 1) := by decide +kernel
theorem dX2_takerOf_27 : decode cX2_takerOf 27 = .ok (.iload_n 3, 1) := by decide +kernel
theorem dX2_takerOf_28 : decode cX2_takerOf 28 = .ok (.invokevirtual 41, 3) := by decide +kernel
theorem dX2_takerOf_31 : decode cX2_takerOf 31 = .ok (.goto 4, 3) := by decide +kernel
theorem dX2_takerOf_34 : decode cX2_takerOf 34 = .ok (.iconst 0, 1) := by decide +kernel
theorem dX2_takerOf_35 : decode cX2_takerOf 35 = .ok (.istore 4, 2) := by decide +kernel
theorem dX2_takerOf_37 : decode cX2_takerOf 37 = .ok (.iconst 0, 1) := by decide +kernel
theorem dX2_takerOf_38 : decode cX2_takerOf 38 = .ok (.istore 5, 2) := by decide +kernel
theorem dX2_takerOf_40 : decode cX2_takerOf 40 = .ok (.iload 5, 2) := by decide +kernel
theorem dX2_takerOf_42 : decode cX2_takerOf 42 = .ok (.iconst 4, 1) := by decide +kernel
theorem dX2_takerOf_43 : decode cX2_takerOf 43 = .ok (.if_icmp .ge 29, 3) := by decide +kernel
theorem dX2_takerOf_46 : decode cX2_takerOf 46 = .ok (.iload_n 2, 1) := by decide +kernel
theorem dX2_takerOf_47 : decode cX2_takerOf 47 = .ok (.iload 5, 2) := by decide +kernel
theorem dX2_takerOf_49 : decode cX2_takerOf 49 = .ok (.invokestatic 53, 3) := by decide +kernel
theorem dX2_takerOf_52 : decode cX2_takerOf 52 = .ok (.ifCond .eq 14, 3) := by decide +kernel
theorem dX2_takerOf_55 : decode cX2_takerOf 55 = .ok (.iload 4, 2) := by decide +kernel
theorem dX2_takerOf_57 : decode cX2_takerOf 57 = .ok (.ifCond .ne 6, 3) := by decide +kernel
theorem dX2_takerOf_60 : decode cX2_takerOf 60 = .ok (.iload 5, 2) := by decide +kernel
theorem dX2_takerOf_62 : decode cX2_takerOf 62 = .ok (.ireturn, 1) := by decide +kernel
theorem dX2_takerOf_63 : decode cX2_takerOf 63 = .ok (.iinc 4 (-1), 3) := by decide +kernel
theorem dX2_takerOf_66 : decode cX2_takerOf 66 = .ok (.iinc 5 1, 3) := by decide +kernel
theorem dX2_takerOf_69 : decode cX2_takerOf 69 = .ok (.goto (-29), 3) := by decide +kernel
theorem dX2_takerOf_72 : decode cX2_takerOf 72 = .ok (.iconst (-1), 1) := by decide +kernel
theorem dX2_takerOf_73 : decode cX2_takerOf 73 = .ok (.ireturn, 1) := by decide +kernel
theorem dX2_draw_0 : decode cX2_draw 0 = .ok (.aload_n 0, 1) := by decide +kernel
theorem dX2_draw_1 : decode cX2_draw 1 = .ok (.ldc 56, 2) := by decide +kernel
theorem dX2_draw_3 : decode cX2_draw 3 = .ok (.aload_n 0, 1) := by decide +kernel
theorem dX2_draw_4 : decode cX2_draw 4 = .ok (.getfield 57, 3) := by decide +kernel
theorem dX2_draw_7 : decode cX2_draw 7 = .ok (.imul, 1) := by decide +kernel
theorem dX2_draw_8 : decode cX2_draw 8 = .ok (.sipush 12345, 3) := by decide +kernel
theorem dX2_draw_11 : decode cX2_draw 11 = .ok (.iadd, 1) := by decide +kernel
theorem dX2_draw_12 : decode cX2_draw 12 = .ok (.putfield 57, 3) := by decide +kernel
theorem dX2_draw_15 : decode cX2_draw 15 = .ok (.iload_n 1, 1) := by decide +kernel
theorem dX2_draw_16 : decode cX2_draw 16 = .ok (.ifCond .le 15, 3) := by decide +kernel
theorem dX2_draw_19 : decode cX2_draw 19 = .ok (.aload_n 0, 1) := by decide +kernel
theorem dX2_draw_20 : decode cX2_draw 20 = .ok (.getfield 57, 3) := by decide +kernel
theorem dX2_draw_23 : decode cX2_draw 23 = .ok (.bipush 16, 2) := by decide +kernel
theorem dX2_draw_25 : decode cX2_draw 25 = .ok (.iushr, 1) := by decide +kernel
theorem dX2_draw_26 : decode cX2_draw 26 = .ok (.iload_n 1, 1) := by decide +kernel
theorem dX2_draw_27 : decode cX2_draw 27 = .ok (.irem, 1) := by decide +kernel
theorem dX2_draw_28 : decode cX2_draw 28 = .ok (.goto 4, 3) := by decide +kernel
theorem dX2_draw_31 : decode cX2_draw 31 = .ok (.iconst 0, 1) := by decide +kernel
theorem dX2_draw_32 : decode cX2_draw 32 = .ok (.ireturn, 1) := by decide +kernel
theorem dX3_init_0 : decode cX3_init 0 = .ok (.aload_n 0, 1) := by decide +kernel
theorem dX3_init_1 : decode cX3_init 1 = .ok (.invokespecial 3, 3) := by decide +kernel
theorem dX3_init_4 : decode cX3_init 4 = .ok (.aload_n 0, 1) := by decide +kernel
theorem dX3_init_5 : decode cX3_init 5 = .ok (.bipush 60, 2) := by decide +kernel
theorem dX3_init_7 : decode cX3_init 7 = .ok (.newarray .int, 2) := by decide +kernel
theorem dX3_init_9 : decode cX3_init 9 = .ok (.putfield 9, 3) := by decide +kernel
theorem dX3_init_12 : decode cX3_init 12 = .ok (.aload_n 0, 1) := by decide +kernel
theorem dX3_init_13 : decode cX3_init 13 = .ok (.iconst (-1), 1) := by decide +kernel
theorem dX3_init_14 : decode cX3_init 14 = .ok (.putfield 15, 3) := by decide +kernel
theorem dX3_init_17 : decode cX3_init 17 = .ok (.aload_n 0, 1) := by decide +kernel
theorem dX3_init_18 : decode cX3_init 18 = .ok (.bipush 16, 2) := by decide +kernel
theorem dX3_init_20 : decode cX3_init 20 = .ok (.newarray .int, 2) := by decide +kernel
theorem dX3_init_22 : decode cX3_init 22 = .ok (.putfield 19, 3) := by decide +kernel
theorem dX3_init_25 : decode cX3_init 25 = .ok (.aload_n 0, 1) := by decide +kernel
theorem dX3_init_26 : decode cX3_init 26 = .ok (.iconst 4, 1) := by decide +kernel
theorem dX3_init_27 : decode cX3_init 27 = .ok (.newarray .int, 2) := by decide +kernel
theorem dX3_init_29 : decode cX3_init 29 = .ok (.putfield 22, 3) := by decide +kernel
theorem dX3_init_32 : decode cX3_init 32 = .ok (.aload_n 0, 1) := by decide +kernel
theorem dX3_init_33 : decode cX3_init 33 = .ok (.iconst 3, 1) := by decide +kernel
theorem dX3_init_34 : decode cX3_init 34 = .ok (.newarray .int, 2) := by decide +kernel
theorem dX3_init_36 : decode cX3_init 36 = .ok (.putfield 25, 3) := by decide +kernel
theorem dX3_init_39 : decode cX3_init 39 = .ok (.return_, 1) := by decide +kernel
theorem dX3_append_0 : decode cX3_append 0 = .ok (.aload_n 0, 1) := by decide +kernel
theorem dX3_append_1 : decode cX3_append 1 = .ok (.getfield 28, 3) := by decide +kernel
theorem dX3_append_4 : decode cX3_append 4 = .ok (.bipush 60, 2) := by decide +kernel
theorem dX3_append_6 : decode cX3_append 6 = .ok (.if_icmp .lt 5, 3) := by decide +kernel
theorem dX3_append_9 : decode cX3_append 9 = .ok (.iconst 0, 1) := by decide +kernel
theorem dX3_append_10 : decode cX3_append 10 = .ok (.ireturn, 1) := by decide +kernel
theorem dX3_append_11 : decode cX3_append 11 = .ok (.aload_n 0, 1) := by decide +kernel
theorem dX3_append_12 : decode cX3_append 12 = .ok (.getfield 9, 3) := by decide +kernel
theorem dX3_append_15 : decode cX3_append 15 = .ok (.aload_n 0, 1) := by decide +kernel
theorem dX3_append_16 : decode cX3_append 16 = .ok (.getfield 28, 3) := by decide +kernel
theorem dX3_append_19 : decode cX3_append 19 = .ok (.iload_n 1, 1) := by decide +kernel
theorem dX3_append_20 : decode cX3_append 20 = .ok (.iastore, 1) := by decide +kernel
theorem dX3_append_21 : decode cX3_append 21 = .ok (.aload_n 0, 1) := by decide +kernel
theorem dX3_append_22 : decode cX3_append 22 = .ok (.dup, 1) := by decide +kernel
theorem dX3_append_23 : decode cX3_append 23 = .ok (.getfield 28, 3) := by decide +kernel
theorem dX3_append_26 : decode cX3_append 26 = .ok (.iconst 1, 1) := by decide +kernel
theorem dX3_append_27 : decode cX3_append 27 = .ok (.iadd, 1) := by decide +kernel
theorem dX3_append_28 : decode cX3_append 28 = .ok (.putfield 28, 3) := by decide +kernel
theorem dX3_append_31 : decode cX3_append 31 = .ok (.aload_n 0, 1) := by decide +kernel
theorem dX3_append_32 : decode cX3_append 32 = .ok (.invokevirtual 31, 3) := by decide +kernel
theorem dX3_append_35 : decode cX3_append 35 = .ok (.iconst 1, 1) := by decide +kernel
theorem dX3_append_36 : decode cX3_append 36 = .ok (.ireturn, 1) := by decide +kernel
theorem dX3_empty_0 : decode cX3_empty 0 = .ok (.aload_n 0, 1) := by decide +kernel
theorem dX3_empty_1 : decode cX3_empty 1 = .ok (.iconst 0, 1) := by decide +kernel
theorem dX3_empty_2 : decode cX3_empty 2 = .ok (.putfield 28, 3) := by decide +kernel
theorem dX3_empty_5 : decode cX3_empty 5 = .ok (.aload_n 0, 1) := by decide +kernel
theorem dX3_empty_6 : decode cX3_empty 6 = .ok (.invokevirtual 31, 3) := by decide +kernel
theorem dX3_empty_9 : decode cX3_empty 9 = .ok (.return_, 1) := by decide +kernel
theorem dX3_funnyTogether_0 : decode cX3_funnyTogether 0 = .ok (.iconst 0, 1) := by decide +kernel
theorem dX3_funnyTogether_1 : decode cX3_funnyTogether 1 = .ok (.istore_n 1, 1) := by decide +kernel
theorem dX3_funnyTogether_2 : decode cX3_funnyTogether 2 = .ok (.iconst 0, 1) := by decide +kernel
theorem dX3_funnyTogether_3 : decode cX3_funnyTogether 3 = .ok (.istore_n 2, 1) := by decide +kernel
theorem dX3_funnyTogether_4 : decode cX3_funnyTogether 4 = .ok (.iload_n 2, 1) := by decide +kernel
theorem dX3_funnyTogether_5 : decode cX3_funnyTogether 5 = .ok (.aload_n 0, 1) := by decide +kernel
theorem dX3_funnyTogether_6 : decode cX3_funnyTogether 6 = .ok (.getfield 34, 3) := by decide +kernel
theorem dX3_funnyTogether_9 : decode cX3_funnyTogether 9 = .ok (.if_icmp .ge 18, 3) := by decide +kernel
theorem dX3_funnyTogether_12 : decode cX3_funnyTogether 12 = .ok (.iload_n 1, 1) := by decide +kernel
theorem dX3_funnyTogether_13 : decode cX3_funnyTogether 13 = .ok (.aload_n 0, 1) := by decide +kernel
theorem dX3_funnyTogether_14 : decode cX3_funnyTogether 14 = .ok (.getfield 22, 3) := by decide +kernel
theorem dX3_funnyTogether_17 : decode cX3_funnyTogether 17 = .ok (.iload_n 2, 1) := by decide +kernel
theorem dX3_funnyTogether_18 : decode cX3_funnyTogether 18 = .ok (.iaload, 1) := by decide +kernel
theorem dX3_funnyTogether_19 : decode cX3_funnyTogether 19 = .ok (.iadd, 1) := by decide +kernel
theorem dX3_funnyTogether_20 : decode cX3_funnyTogether 20 = .ok (.istore_n 1, 1) := by decide +kernel
theorem dX3_funnyTogether_21 : decode cX3_funnyTogether 21 = .ok (.iinc 2 1, 3) := by decide +kernel
theorem dX3_funnyTogether_24 : decode cX3_funnyTogether 24 = .ok (.goto (-20), 3) := by decide +kernel
theorem dX3_funnyTogether_27 : decode cX3_funnyTogether 27 = .ok (.iload_n 1, 1) := by decide +kernel
theorem dX3_funnyTogether_28 : decode cX3_funnyTogether 28 = .ok (.ireturn, 1) := by decide +kernel
theorem dX3_worthTogether_0 : decode cX3_worthTogether 0 = .ok (.iconst 0, 1) := by decide +kernel
theorem dX3_worthTogether_1 : decode cX3_worthTogether 1 = .ok (.istore_n 1, 1) := by decide +kernel
theorem dX3_worthTogether_2 : decode cX3_worthTogether 2 = .ok (.iconst 0, 1) := by decide +kernel
theorem dX3_worthTogether_3 : decode cX3_worthTogether 3 = .ok (.istore_n 2, 1) := by decide +kernel
theorem dX3_worthTogether_4 : decode cX3_worthTogether 4 = .ok (.iload_n 2, 1) := by decide +kernel
theorem dX3_worthTogether_5 : decode cX3_worthTogether 5 = .ok (.aload_n 0, 1) := by decide +kernel
theorem dX3_worthTogether_6 : decode cX3_worthTogether 6 = .ok (.getfield 37, 3) := by decide +kernel
theorem dX3_worthTogether_9 : decode cX3_worthTogether 9 = .ok (.if_icmp .ge 22, 3) := by decide +kernel
theorem dX3_worthTogether_12 : decode cX3_worthTogether 12 = .ok (.iload_n 1, 1) := by decide +kernel
theorem dX3_worthTogether_13 : decode cX3_worthTogether 13 = .ok (.aload_n 0, 1) := by decide +kernel
theorem dX3_worthTogether_14 : decode cX3_worthTogether 14 = .ok (.getfield 19, 3) := by decide +kernel
theorem dX3_worthTogether_17 : decode cX3_worthTogether 17 = .ok (.iconst 4, 1) := by decide +kernel
theorem dX3_worthTogether_18 : decode cX3_worthTogether 18 = .ok (.iload_n 2, 1) := by decide +kernel
theorem dX3_worthTogether_19 : decode cX3_worthTogether 19 = .ok (.imul, 1) := by decide +kernel
theorem dX3_worthTogether_20 : decode cX3_worthTogether 20 = .ok (.iconst 3, 1) := by decide +kernel
theorem dX3_worthTogether_21 : decode cX3_worthTogether 21 = .ok (.iadd, 1) := by decide +kernel
theorem dX3_worthTogether_22 : decode cX3_worthTogether 22 = .ok (.iaload, 1) := by decide +kernel
theorem dX3_worthTogether_23 : decode cX3_worthTogether 23 = .ok (.iadd, 1) := by decide +kernel
theorem dX3_worthTogether_24 : decode cX3_worthTogether 24 = .ok (.istore_n 1, 1) := by decide +kernel
theorem dX3_worthTogether_25 : decode cX3_worthTogether 25 = .ok (.iinc 2 1, 3) := by decide +kernel
theorem dX3_worthTogether_28 : decode cX3_worthTogether 28 = .ok (.goto (-24), 3) := by decide +kernel
theorem dX3_worthTogether_31 : decode cX3_worthTogether 31 = .ok (.iload_n 1, 1) := by decide +kernel
theorem dX3_worthTogether_32 : decode cX3_worthTogether 32 = .ok (.ireturn, 1) := by decide +kernel
theorem dX3_interpret_0 : decode cX3_interpret 0 = .ok (.aload_n 0, 1) := by decide +kernel
theorem dX3_interpret_1 : decode cX3_interpret 1 = .ok (.invokevirtual 40, 3) := by decide +kernel
theorem dX3_interpret_4 : decode cX3_interpret 4 = .ok (.aload_n 0, 1) := by decide +kernel
theorem dX3_interpret_5 : decode cX3_interpret 5 = .ok (.iconst (-1), 1) := by decide +kernel
theorem dX3_interpret_6 : decode cX3_interpret 6 = .ok (.putfield 15, 3) := by decide +kernel
theorem dX3_interpret_9 : decode cX3_interpret 9 = .ok (.aload_n 0, 1) := by decide +kernel
theorem dX3_interpret_10 : decode cX3_interpret 10 = .ok (.invokevirtual 43, 3) := by decide +kernel
theorem dX3_interpret_13 : decode cX3_interpret 13 = .ok (.ifCond .ne 15, 3) := by decide +kernel
theorem dX3_interpret_16 : decode cX3_interpret 16 = .ok (.aload_n 0, 1) := by decide +kernel
theorem dX3_interpret_17 : decode cX3_interpret 17 = .ok (.aload_n 0, 1) := by decide +kernel
theorem dX3_interpret_18 : decode cX3_interpret 18 = .ok (.getfield 47, 3) := by decide +kernel
theorem dX3_interpret_21 : decode cX3_interpret 21 = .ok (.putfield 15, 3) := by decide +kernel
theorem dX3_interpret_24 : decode cX3_interpret 24 = .ok (.aload_n 0, 1) := by decide +kernel
theorem dX3_interpret_25 : decode cX3_interpret 25 = .ok (.invokevirtual 40, 3) := by decide +kernel
theorem dX3_interpret_28 : decode cX3_interpret 28 = .ok (.aload_n 0, 1) := by decide +kernel
theorem dX3_interpret_29 : decode cX3_interpret 29 = .ok (.getfield 25, 3) := by decide +kernel
theorem dX3_interpret_32 : decode cX3_interpret 32 = .ok (.iconst 2, 1) := by decide +kernel
theorem dX3_interpret_33 : decode cX3_interpret 33 = .ok (.iaload, 1) := by decide +kernel
theorem dX3_interpret_34 : decode cX3_interpret 34 = .ok (.aload_n 0, 1) := by decide +kernel
theorem dX3_interpret_35 : decode cX3_interpret 35 = .ok (.getfield 37, 3) := by decide +kernel
theorem dX3_interpret_38 : decode cX3_interpret 38 = .ok (.if_icmp .lt 10, 3) := by decide +kernel
theorem dX3_interpret_41 : decode cX3_interpret 41 = .ok (.aload_n 0, 1) := by decide +kernel
theorem dX3_interpret_42 : decode cX3_interpret 42 = .ok (.getfield 25, 3) := by decide +kernel
theorem dX3_interpret_45 : decode cX3_interpret 45 = .ok (.iconst 2, 1) := by decide +kernel
theorem dX3_interpret_46 : decode cX3_interpret 46 = .ok (.iconst 0, 1) := by decide +kernel
theorem dX3_interpret_47 : decode cX3_interpret 47 = .ok (.iastore, 1) := by decide +kernel
theorem dX3_interpret_48 : decode cX3_interpret 48 = .ok (.return_, 1) := by decide +kernel
theorem dX3_forget_0 : decode cX3_forget 0 = .ok (.aload_n 0, 1) := by decide +kernel
theorem dX3_forget_1 : decode cX3_forget 1 = .ok (.iconst 0, 1) := by decide +kernel
theorem dX3_forget_2 : decode cX3_forget 2 = .ok (.putfield 37, 3) := by decide +kernel
theorem dX3_forget_5 : decode cX3_forget 5 = .ok (.aload_n 0, 1) := by decide +kernel
theorem dX3_forget_6 : decode cX3_forget 6 = .ok (.iconst 0, 1) := by decide +kernel
theorem dX3_forget_7 : decode cX3_forget 7 = .ok (.putfield 34, 3) := by decide +kernel
theorem dX3_forget_10 : decode cX3_forget 10 = .ok (.aload_n 0, 1) := by decide +kernel
theorem dX3_forget_11 : decode cX3_forget 11 = .ok (.getfield 25, 3) := by decide +kernel
theorem dX3_forget_14 : decode cX3_forget 14 = .ok (.iconst 0, 1) := by decide +kernel
theorem dX3_forget_15 : decode cX3_forget 15 = .ok (.iconst 0, 1) := by decide +kernel
theorem dX3_forget_16 : decode cX3_forget 16 = .ok (.iastore, 1) := by decide +kernel
theorem dX3_forget_17 : decode cX3_forget 17 = .ok (.aload_n 0, 1) := by decide +kernel
theorem dX3_forget_18 : decode cX3_forget 18 = .ok (.getfield 25, 3) := by decide +kernel
theorem dX3_forget_21 : decode cX3_forget 21 = .ok (.iconst 1, 1) := by decide +kernel
theorem dX3_forget_22 : decode cX3_forget 22 = .ok (.iconst 0, 1) := by decide +kernel
theorem dX3_forget_23 : decode cX3_forget 23 = .ok (.iastore, 1) := by decide +kernel
theorem dX3_forget_24 : decode cX3_forget 24 = .ok (.aload_n 0, 1) := by decide +kernel
theorem dX3_forget_25 : decode cX3_forget 25 = .ok (.getfield 25, 3) := by decide +kernel
theorem dX3_forget_28 : decode cX3_forget 28 = .ok (.iconst 2, 1) := by decide +kernel
theorem dX3_forget_29 : decode cX3_forget 29 = .ok (.iconst 0, 1) := by decide +kernel
theorem dX3_forget_30 : decode cX3_forget 30 = .ok (.iastore, 1) := by decide +kernel
theorem dX3_forget_31 : decode cX3_forget 31 = .ok (.return_, 1) := by decide +kernel
theorem dX3_readParts_0 : decode cX3_readParts 0 = .ok (.aload_n 0, 1) := by decide +kernel
theorem dX3_readParts_1 : decode cX3_readParts 1 = .ok (.iconst 0, 1) := by decide +kernel
theorem dX3_readParts_2 : decode cX3_readParts 2 = .ok (.putfield 47, 3) := by decide +kernel
theorem dX3_readParts_5 : decode cX3_readParts 5 = .ok (.aload_n 0, 1) := by decide +kernel
theorem dX3_readParts_6 : decode cX3_readParts 6 = .ok (.getfield 28, 3) := by decide +kernel
theorem dX3_readParts_9 : decode cX3_readParts 9 = .ok (.ifCond .ne 5, 3) := by decide +kernel
theorem dX3_readParts_12 : decode cX3_readParts 12 = .ok (.iconst 1, 1) := by decide +kernel
theorem dX3_readParts_13 : decode cX3_readParts 13 = .ok (.ireturn, 1) := by decide +kernel
theorem dX3_readParts_14 : decode cX3_readParts 14 = .ok (.iconst 0, 1) := by decide +kernel
theorem dX3_readParts_15 : decode cX3_readParts 15 = .ok (.istore_n 1, 1) := by decide +kernel
theorem dX3_readParts_16 : decode cX3_readParts 16 = .ok (.iload_n 1, 1) := by decide +kernel
theorem dX3_readParts_17 : decode cX3_readParts 17 = .ok (.bipush 60, 2) := by decide +kernel
theorem dX3_readParts_19 : decode cX3_readParts 19 = .ok (.if_icmp .ge 52, 3) := by decide +kernel
theorem dX3_readParts_22 : decode cX3_readParts 22 = .ok (.aload_n 0, 1) := by decide +kernel
theorem dX3_readParts_23 : decode cX3_readParts 23 = .ok (.invokevirtual 50, 3) := by decide +kernel
theorem dX3_readParts_26 : decode cX3_readParts 26 = .ok (.ifCond .ne 5, 3) := by decide +kernel
theorem dX3_readParts_29 : decode cX3_readParts 29 = .ok (.iconst 0, 1) := by decide +kernel
theorem dX3_readParts_30 : decode cX3_readParts 30 = .ok (.ireturn, 1) := by decide +kernel
theorem dX3_readParts_31 : decode cX3_readParts 31 = .ok (.aload_n 0, 1) := by decide +kernel
theorem dX3_readParts_32 : decode cX3_readParts 32 = .ok (.getfield 47, 3) := by decide +kernel
theorem dX3_readParts_35 : decode cX3_readParts 35 = .ok (.aload_n 0, 1) := by decide +kernel
theorem dX3_readParts_36 : decode cX3_readParts 36 = .ok (.getfield 28, 3) := by decide +kernel
theorem dX3_readParts_39 : decode cX3_readParts 39 = .ok (.if_icmp .ne 5, 3) := by decide +kernel
theorem dX3_readParts_42 : decode cX3_readParts 42 = .ok (.iconst 1, 1) := by decide +kernel
theorem dX3_readParts_43 : decode cX3_readParts 43 = .ok (.ireturn, 1) := by decide +kernel
theorem dX3_readParts_44 : decode cX3_readParts 44 = .ok (.aload_n 0, 1) := by decide +kernel
theorem dX3_readParts_45 : decode cX3_readParts 45 = .ok (.invokevirtual 53, 3) := by decide +kernel
theorem dX3_readParts_48 : decode cX3_readParts 48 = .ok (.bipush 59, 2) := by decide +kernel
theorem dX3_readParts_50 : decode cX3_readParts 50 = .ok (.if_icmp .eq 5, 3) := by decide +kernel
theorem dX3_readParts_53 : decode cX3_readParts 53 = .ok (.iconst 0, 1) := by decide +kernel
theorem dX3_readParts_54 : decode cX3_readParts 54 = .ok (.ireturn, 1) := by decide +kernel
theorem dX3_readParts_55 : decode cX3_readParts 55 = .ok (.aload_n 0, 1) := by decide +kernel
theorem dX3_readParts_56 : decode cX3_readParts 56 = .ok (.dup, 1) := by decide +kernel
theorem dX3_readParts_57 : decode cX3_readParts 57 = .ok (.getfield 47, 3) := by decide +kernel
theorem dX3_readParts_60 : decode cX3_readParts 60 = .ok (.iconst 1, 1) := by decide +kernel
theorem dX3_readParts_61 : decode cX3_readParts 61 = .ok (.iadd, 1) := by decide +kernel
theorem dX3_readParts_62 : decode cX3_readParts 62 = .ok (.putfield 47, 3) := by decide +kernel
theorem dX3_readParts_65 : decode cX3_readParts 65 = .ok (.iinc 1 1, 3) := by decide +kernel
theorem dX3_readParts_68 : decode cX3_readParts 68 = .ok (.goto (-52), 3) := by decide +kernel
theorem dX3_readParts_71 : decode cX3_readParts 71 = .ok (.iconst 0, 1) := by decide +kernel
theorem dX3_readParts_72 : decode cX3_readParts 72 = .ok (.ireturn, 1) := by decide +kernel
theorem dX3_readPart_0 : decode cX3_readPart 0 = .ok (.aload_n 0, 1) := by decide +kernel
theorem dX3_readPart_1 : decode cX3_readPart 1 = .ok (.invokevirtual 53, 3) := by decide +kernel
theorem dX3_readPart_4 : decode cX3_readPart 4 = .ok (.tableswitch 83 108 116 #[62, 69, 83, 76, 52, 83, 83, 83, 57], 52) := by decide +kernel
theorem dX3_readPart_56 : decode cX3_readPart 56 = .ok (.aload_n 0, 1) := by decide +kernel
theorem dX3_readPart_57 : decode cX3_readPart 57 = .ok (.invokevirtual 57, 3) := by decide +kernel
theorem dX3_readPart_60 : decode cX3_readPart 60 = .ok (.ireturn, 1) := by decide +kernel
theorem dX3_readPart_61 : decode cX3_readPart 61 = .ok (.aload_n 0, 1) := by decide +kernel
theorem dX3_readPart_62 : decode cX3_readPart 62 = .ok (.invokevirtual 60, 3) := by decide +kernel
theorem dX3_readPart_65 : decode cX3_readPart 65 = .ok (.ireturn, 1) := by decide +kernel
theorem dX3_readPart_66 : decode cX3_readPart 66 = .ok (.aload_n 0, 1) := by decide +kernel
theorem dX3_readPart_67 : decode cX3_readPart 67 = .ok (.iconst 0, 1) := by decide +kernel
theorem dX3_readPart_68 : decode cX3_readPart 68 = .ok (.iconst 2, 1) := by decide +kernel
theorem dX3_readPart_69 : decode cX3_readPart 69 = .ok (.invokevirtual 63, 3) := by decide +kernel
theorem dX3_readPart_72 : decode cX3_readPart 72 = .ok (.ireturn, 1) := by decide +kernel
theorem dX3_readPart_73 : decode cX3_readPart 73 = .ok (.aload_n 0, 1) := by decide +kernel
theorem dX3_readPart_74 : decode cX3_readPart 74 = .ok (.iconst 1, 1) := by decide +kernel
theorem dX3_readPart_75 : decode cX3_readPart 75 = .ok (.iconst 2, 1) := by decide +kernel
theorem dX3_readPart_76 : decode cX3_readPart 76 = .ok (.invokevirtual 63, 3) := by decide +kernel
theorem dX3_readPart_79 : decode cX3_readPart 79 = .ok (.ireturn, 1) := by decide +kernel
theorem dX3_readPart_80 : decode cX3_readPart 80 = .ok (.aload_n 0, 1) := by decide +kernel
theorem dX3_readPart_81 : decode cX3_readPart 81 = .ok (.iconst 2, 1) := by decide +kernel
theorem dX3_readPart_82 : decode cX3_readPart 82 = .ok (.iconst 3, 1) := by decide +kernel
theorem dX3_readPart_83 : decode cX3_readPart 83 = .ok (.invokevirtual 63, 3) := by decide +kernel
theorem dX3_readPart_86 : decode cX3_readPart 86 = .ok (.ireturn, 1) := by decide +kernel
theorem dX3_readPart_87 : decode cX3_readPart 87 = .ok (.iconst 0, 1) := by decide +kernel
theorem dX3_readPart_88 : decode cX3_readPart 88 = .ok (.ireturn, 1) := by decide +kernel
theorem dX3_readPerson_0 : decode cX3_readPerson 0 = .ok (.aload_n 0, 1) := by decide +kernel
theorem dX3_readPerson_1 : decode cX3_readPerson 1 = .ok (.getfield 37, 3) := by decide +kernel
theorem dX3_readPerson_4 : decode cX3_readPerson 4 = .ok (.iconst 4, 1) := by decide +kernel
theorem dX3_readPerson_5 : decode cX3_readPerson 5 = .ok (.if_icmp .lt 5, 3) := by decide +kernel
theorem dX3_readPerson_8 : decode cX3_readPerson 8 = .ok (.iconst 0, 1) := by decide +kernel
theorem dX3_readPerson_9 : decode cX3_readPerson 9 = .ok (.ireturn, 1) := by decide +kernel
theorem dX3_readPerson_10 : decode cX3_readPerson 10 = .ok (.aload_n 0, 1) := by decide +kernel
theorem dX3_readPerson_11 : decode cX3_readPerson 11 = .ok (.dup, 1) := by decide +kernel
theorem dX3_readPerson_12 : decode cX3_readPerson 12 = .ok (.getfield 47, 3) := by decide +kernel
theorem dX3_readPerson_15 : decode cX3_readPerson 15 = .ok (.iconst 1, 1) := by decide +kernel
theorem dX3_readPerson_16 : decode cX3_readPerson 16 = .ok (.iadd, 1) := by decide +kernel
theorem dX3_readPerson_17 : decode cX3_readPerson 17 = .ok (.putfield 47, 3) := by decide +kernel
theorem dX3_readPerson_20 : decode cX3_readPerson 20 = .ok (.iconst 0, 1) := by decide +kernel
theorem dX3_readPerson_21 : decode cX3_readPerson 21 = .ok (.istore_n 1, 1) := by decide +kernel
theorem dX3_readPerson_22 : decode cX3_readPerson 22 = .ok (.iload_n 1, 1) := by decide +kernel
theorem dX3_readPerson_23 : decode cX3_readPerson 23 = .ok (.iconst 3, 1) := by decide +kernel
theorem dX3_readPerson_24 : decode cX3_readPerson 24 = .ok (.if_icmp .gt 50, 3) := by decide +kernel
theorem dX3_readPerson_27 : decode cX3_readPerson 27 = .ok (.aload_n 0, 1) := by decide +kernel
theorem dX3_readPerson_28 : decode cX3_readPerson 28 = .ok (.bipush 9, 2) := by decide +kernel
theorem dX3_readPerson_30 : decode cX3_readPerson 30 = .ok (.invokevirtual 67, 3) := by decide +kernel
theorem dX3_readPerson_33 : decode cX3_readPerson 33 = .ok (.ifCond .ne 5, 3) := by decide +kernel
theorem dX3_readPerson_36 : decode cX3_readPerson 36 = .ok (.iconst 0, 1) := by decide +kernel
theorem dX3_readPerson_37 : decode cX3_readPerson 37 = .ok (.ireturn, 1) := by decide +kernel
theorem dX3_readPerson_38 : decode cX3_readPerson 38 = .ok (.aload_n 0, 1) := by decide +kernel
theorem dX3_readPerson_39 : decode cX3_readPerson 39 = .ok (.getfield 19, 3) := by decide +kernel
theorem dX3_readPerson_42 : decode cX3_readPerson 42 = .ok (.iconst 4, 1) := by decide +kernel
theorem dX3_readPerson_43 : decode cX3_readPerson 43 = .ok (.aload_n 0, 1) := by decide +kernel
theorem dX3_readPerson_44 : decode cX3_readPerson 44 = .ok (.getfield 37, 3) := by decide +kernel
theorem dX3_readPerson_47 : decode cX3_readPerson 47 = .ok (.imul, 1) := by decide +kernel
theorem dX3_readPerson_48 : decode cX3_readPerson 48 = .ok (.iload_n 1, 1) := by decide +kernel
theorem dX3_readPerson_49 : decode cX3_readPerson 49 = .ok (.iadd, 1) := by decide +kernel
theorem dX3_readPerson_50 : decode cX3_readPerson 50 = .ok (.aload_n 0, 1) := by decide +kernel
theorem dX3_readPerson_51 : decode cX3_readPerson 51 = .ok (.invokevirtual 53, 3) := by decide +kernel
theorem dX3_readPerson_54 : decode cX3_readPerson 54 = .ok (.bipush 48, 2) := by decide +kernel
theorem dX3_readPerson_56 : decode cX3_readPerson 56 = .ok (.isub, 1) := by decide +kernel
theorem dX3_readPerson_57 : decode cX3_readPerson 57 = .ok (.iastore, 1) := by decide +kernel
theorem dX3_readPerson_58 : decode cX3_readPerson 58 = .ok (.aload_n 0, 1) := by decide +kernel
theorem dX3_readPerson_59 : decode cX3_readPerson 59 = .ok (.dup, 1) := by decide +kernel
theorem dX3_readPerson_60 : decode cX3_readPerson 60 = .ok (.getfield 47, 3) := by decide +kernel
theorem dX3_readPerson_63 : decode cX3_readPerson 63 = .ok (.iconst 1, 1) := by decide +kernel
theorem dX3_readPerson_64 : decode cX3_readPerson 64 = .ok (.iadd, 1) := by decide +kernel
theorem dX3_readPerson_65 : decode cX3_readPerson 65 = .ok (.putfield 47, 3) := by decide +kernel
theorem dX3_readPerson_68 : decode cX3_readPerson 68 = .ok (.iinc 1 1, 3) := by decide +kernel
theorem dX3_readPerson_71 : decode cX3_readPerson 71 = .ok (.goto (-49), 3) := by decide +kernel
theorem dX3_readPerson_74 : decode cX3_readPerson 74 = .ok (.aload_n 0, 1) := by decide +kernel
theorem dX3_readPerson_75 : decode cX3_readPerson 75 = .ok (.dup, 1) := by decide +kernel
theorem dX3_readPerson_76 : decode cX3_readPerson 76 = .ok (.getfield 37, 3) := by decide +kernel
theorem dX3_readPerson_79 : decode cX3_readPerson 79 = .ok (.iconst 1, 1) := by decide +kernel
theorem dX3_readPerson_80 : decode cX3_readPerson 80 = .ok (.iadd, 1) := by decide +kernel
theorem dX3_readPerson_81 : decode cX3_readPerson 81 = .ok (.putfield 37, 3) := by decide +kernel
theorem dX3_readPerson_84 : decode cX3_readPerson 84 = .ok (.iconst 1, 1) := by decide +kernel
theorem dX3_readPerson_85 : decode cX3_readPerson 85 = .ok (.ireturn, 1) := by decide +kernel
theorem dX3_readTale_0 : decode cX3_readTale 0 = .ok (.aload_n 0, 1) := by decide +kernel
theorem dX3_readTale_1 : decode cX3_readTale 1 = .ok (.getfield 34, 3) := by decide +kernel
theorem dX3_readTale_4 : decode cX3_readTale 4 = .ok (.iconst 4, 1) := by decide +kernel
theorem dX3_readTale_5 : decode cX3_readTale 5 = .ok (.if_icmp .lt 5, 3) := by decide +kernel
theorem dX3_readTale_8 : decode cX3_readTale 8 = .ok (.iconst 0, 1) := by decide +kernel
theorem dX3_readTale_9 : decode cX3_readTale 9 = .ok (.ireturn, 1) := by decide +kernel
theorem dX3_readTale_10 : decode cX3_readTale 10 = .ok (.aload_n 0, 1) := by decide +kernel
theorem dX3_readTale_11 : decode cX3_readTale 11 = .ok (.dup, 1) := by decide +kernel
theorem dX3_readTale_12 : decode cX3_readTale 12 = .ok (.getfield 47, 3) := by decide +kernel
theorem dX3_readTale_15 : decode cX3_readTale 15 = .ok (.iconst 1, 1) := by decide +kernel
theorem dX3_readTale_16 : decode cX3_readTale 16 = .ok (.iadd, 1) := by decide +kernel
theorem dX3_readTale_17 : decode cX3_readTale 17 = .ok (.putfield 47, 3) := by decide +kernel
theorem dX3_readTale_20 : decode cX3_readTale 20 = .ok (.aload_n 0, 1) := by decide +kernel
theorem dX3_readTale_21 : decode cX3_readTale 21 = .ok (.bipush 9, 2) := by decide +kernel
theorem dX3_readTale_23 : decode cX3_readTale 23 = .ok (.invokevirtual 67, 3) := by decide +kernel
theorem dX3_readTale_26 : decode cX3_readTale 26 = .ok (.ifCond .ne 5, 3) := by decide +kernel
theorem dX3_readTale_29 : decode cX3_readTale 29 = .ok (.iconst 0, 1) := by decide +kernel
theorem dX3_readTale_30 : decode cX3_readTale 30 = .ok (.ireturn, 1) := by decide +kernel
theorem dX3_readTale_31 : decode cX3_readTale 31 = .ok (.aload_n 0, 1) := by decide +kernel
theorem dX3_readTale_32 : decode cX3_readTale 32 = .ok (.getfield 22, 3) := by decide +kernel
theorem dX3_readTale_35 : decode cX3_readTale 35 = .ok (.aload_n 0, 1) := by decide +kernel
theorem dX3_readTale_36 : decode cX3_readTale 36 = .ok (.getfield 34, 3) := by decide +kernel
theorem dX3_readTale_39 : decode cX3_readTale 39 = .ok (.aload_n 0, 1) := by decide +kernel
theorem dX3_readTale_40 : decode cX3_readTale 40 = .ok (.invokevirtual 53, 3) := by decide +kernel
theorem dX3_readTale_43 : decode cX3_readTale 43 = .ok (.bipush 48, 2) := by decide +kernel
theorem dX3_readTale_45 : decode cX3_readTale 45 = .ok (.isub, 1) := by decide +kernel
theorem dX3_readTale_46 : decode cX3_readTale 46 = .ok (.iastore, 1) := by decide +kernel
theorem dX3_readTale_47 : decode cX3_readTale 47 = .ok (.aload_n 0, 1) := by decide +kernel
theorem dX3_readTale_48 : decode cX3_readTale 48 = .ok (.dup, 1) := by decide +kernel
theorem dX3_readTale_49 : decode cX3_readTale 49 = .ok (.getfield 47, 3) := by decide +kernel
theorem dX3_readTale_52 : decode cX3_readTale 52 = .ok (.iconst 1, 1) := by decide +kernel
theorem dX3_readTale_53 : decode cX3_readTale 53 = .ok (.iadd, 1) := by decide +kernel
theorem dX3_readTale_54 : decode cX3_readTale 54 = .ok (.putfield 47, 3) := by decide +kernel
theorem dX3_readTale_57 : decode cX3_readTale 57 = .ok (.aload_n 0, 1) := by decide +kernel
theorem dX3_readTale_58 : decode cX3_readTale 58 = .ok (.dup, 1) := by decide +kernel
theorem dX3_readTale_59 : decode cX3_readTale 59 = .ok (.getfield 34, 3) := by decide +kernel
theorem dX3_readTale_62 : decode cX3_readTale 62 = .ok (.iconst 1, 1) := by decide +kernel
theorem dX3_readTale_63 : decode cX3_readTale 63 = .ok (.iadd, 1) := by decide +kernel
theorem dX3_readTale_64 : decode cX3_readTale 64 = .ok (.putfield 34, 3) := by decide +kernel
theorem dX3_readTale_67 : decode cX3_readTale 67 = .ok (.iconst 1, 1) := by decide +kernel
theorem dX3_readTale_68 : decode cX3_readTale 68 = .ok (.ireturn, 1) := by decide +kernel
theorem dX3_readRule_0 : decode cX3_readRule 0 = .ok (.aload_n 0, 1) := by decide +kernel
theorem dX3_readRule_1 : decode cX3_readRule 1 = .ok (.dup, 1) := by decide +kernel
theorem dX3_readRule_2 : decode cX3_readRule 2 = .ok (.getfield 47, 3) := by decide +kernel
theorem dX3_readRule_5 : decode cX3_readRule 5 = .ok (.iconst 1, 1) := by decide +kernel
theorem dX3_readRule_6 : decode cX3_readRule 6 = .ok (.iadd, 1) := by decide +kernel
theorem dX3_readRule_7 : decode cX3_readRule 7 = .ok (.putfield 47, 3) := by decide +kernel
theorem dX3_readRule_10 : decode cX3_readRule 10 = .ok (.aload_n 0, 1) := by decide +kernel
theorem dX3_readRule_11 : decode cX3_readRule 11 = .ok (.iload_n 2, 1) := by decide +kernel
theorem dX3_readRule_12 : decode cX3_readRule 12 = .ok (.invokevirtual 67, 3) := by decide +kernel
theorem dX3_readRule_15 : decode cX3_readRule 15 = .ok (.ifCond .ne 5, 3) := by decide +kernel
theorem dX3_readRule_18 : decode cX3_readRule 18 = .ok (.iconst 0, 1) := by decide +kernel
theorem dX3_readRule_19 : decode cX3_readRule 19 = .ok (.ireturn, 1) := by decide +kernel
theorem dX3_readRule_20 : decode cX3_readRule 20 = .ok (.aload_n 0, 1) := by decide +kernel
theorem dX3_readRule_21 : decode cX3_readRule 21 = .ok (.getfield 25, 3) := by decide +kernel
theorem dX3_readRule_24 : decode cX3_readRule 24 = .ok (.iload_n 1, 1) := by decide +kernel
theorem dX3_readRule_25 : decode cX3_readRule 25 = .ok (.aload_n 0, 1) := by decide +kernel
theorem dX3_readRule_26 : decode cX3_readRule 26 = .ok (.invokevirtual 53, 3) := by decide +kernel
theorem dX3_readRule_29 : decode cX3_readRule 29 = .ok (.bipush 48, 2) := by decide +kernel
theorem dX3_readRule_31 : decode cX3_readRule 31 = .ok (.isub, 1) := by decide +kernel
theorem dX3_readRule_32 : decode cX3_readRule 32 = .ok (.iastore, 1) := by decide +kernel
theorem dX3_readRule_33 : decode cX3_readRule 33 = .ok (.aload_n 0, 1) := by decide +kernel
theorem dX3_readRule_34 : decode cX3_readRule 34 = .ok (.dup, 1) := by decide +kernel
theorem dX3_readRule_35 : decode cX3_readRule 35 = .ok (.getfield 47, 3) := by decide +kernel
theorem dX3_readRule_38 : decode cX3_readRule 38 = .ok (.iconst 1, 1) := by decide +kernel
theorem dX3_readRule_39 : decode cX3_readRule 39 = .ok (.iadd, 1) := by decide +kernel
theorem dX3_readRule_40 : decode cX3_readRule 40 = .ok (.putfield 47, 3) := by decide +kernel
theorem dX3_readRule_43 : decode cX3_readRule 43 = .ok (.iconst 1, 1) := by decide +kernel
theorem dX3_readRule_44 : decode cX3_readRule 44 = .ok (.ireturn, 1) := by decide +kernel
theorem dX3_sign_0 : decode cX3_sign 0 = .ok (.aload_n 0, 1) := by decide +kernel
theorem dX3_sign_1 : decode cX3_sign 1 = .ok (.getfield 47, 3) := by decide +kernel
theorem dX3_sign_4 : decode cX3_sign 4 = .ok (.aload_n 0, 1) := by decide +kernel
theorem dX3_sign_5 : decode cX3_sign 5 = .ok (.getfield 28, 3) := by decide +kernel
theorem dX3_sign_8 : decode cX3_sign 8 = .ok (.if_icmp .ge 15, 3) := by decide +kernel
theorem dX3_sign_11 : decode cX3_sign 11 = .ok (.aload_n 0, 1) := by decide +kernel
theorem dX3_sign_12 : decode cX3_sign 12 = .ok (.getfield 9, 3) := by decide +kernel
theorem dX3_sign_15 : decode cX3_sign 15 = .ok (.aload_n 0, 1) := by decide +kernel
theorem dX3_sign_16 : decode cX3_sign 16 = .ok (.getfield 47, 3) := by decide +kernel
theorem dX3_sign_19 : decode cX3_sign 19 = .ok (.iaload, 1) := by decide +kernel
theorem dX3_sign_20 : decode cX3_sign 20 = .ok (.goto 4, 3) := by decide +kernel
theorem dX3_sign_23 : decode cX3_sign 23 = .ok (.iconst (-1), 1) := by decide +kernel
theorem dX3_sign_24 : decode cX3_sign 24 = .ok (.ireturn, 1) := by decide +kernel
theorem dX3_isFigure_0 : decode cX3_isFigure 0 = .ok (.aload_n 0, 1) := by decide +kernel
theorem dX3_isFigure_1 : decode cX3_isFigure 1 = .ok (.invokevirtual 53, 3) := by decide +kernel
theorem dX3_isFigure_4 : decode cX3_isFigure 4 = .ok (.bipush 48, 2) := by decide +kernel
theorem dX3_isFigure_6 : decode cX3_isFigure 6 = .ok (.isub, 1) := by decide +kernel
theorem dX3_isFigure_7 : decode cX3_isFigure 7 = .ok (.iload_n 1, 1) := by decide +kernel
theorem dX3_isFigure_8 : decode cX3_isFigure 8 = .ok (.invokestatic 71, 3) := by decide +kernel
theorem dX3_isFigure_11 : decode cX3_isFigure 11 = .ok (.ireturn, 1) := by decide +kernel
theorem dX4_init_0 : decode cX4_init 0 = .ok (.aload_n 0, 1) := by decide +kernel
theorem dX4_init_1 : decode cX4_init 1 = .ok (.invokespecial 3, 3) := by decide +kernel
theorem dX4_init_4 : decode cX4_init 4 = .ok (.aload_n 0, 1) := by decide +kernel
theorem dX4_init_5 : decode cX4_init 5 = .ok (.iconst 4, 1) := by decide +kernel
theorem dX4_init_6 : decode cX4_init 6 = .ok (.newarray .int, 2) := by decide +kernel
theorem dX4_init_8 : decode cX4_init 8 = .ok (.putfield 9, 3) := by decide +kernel
theorem dX4_init_11 : decode cX4_init 11 = .ok (.aload_n 0, 1) := by decide +kernel
theorem dX4_init_12 : decode cX4_init 12 = .ok (.iconst 4, 1) := by decide +kernel
theorem dX4_init_13 : decode cX4_init 13 = .ok (.newarray .int, 2) := by decide +kernel
theorem dX4_init_15 : decode cX4_init 15 = .ok (.putfield 15, 3) := by decide +kernel
theorem dX4_init_18 : decode cX4_init 18 = .ok (.aload_n 0, 1) := by decide +kernel
theorem dX4_init_19 : decode cX4_init 19 = .ok (.iconst 4, 1) := by decide +kernel
theorem dX4_init_20 : decode cX4_init 20 = .ok (.newarray .int, 2) := by decide +kernel
theorem dX4_init_22 : decode cX4_init 22 = .ok (.putfield 18, 3) := by decide +kernel
theorem dX4_init_25 : decode cX4_init 25 = .ok (.aload_n 0, 1) := by decide +kernel
theorem dX4_init_26 : decode cX4_init 26 = .ok (.iconst 4, 1) := by decide +kernel
theorem dX4_init_27 : decode cX4_init 27 = .ok (.newarray .int, 2) := by decide +kernel
theorem dX4_init_29 : decode cX4_init 29 = .ok (.putfield 21, 3) := by decide +kernel
theorem dX4_init_32 : decode cX4_init 32 = .ok (.aload_n 0, 1) := by decide +kernel
theorem dX4_init_33 : decode cX4_init 33 = .ok (.iconst 4, 1) := by decide +kernel
theorem dX4_init_34 : decode cX4_init 34 = .ok (.newarray .int, 2) := by decide +kernel
theorem dX4_init_36 : decode cX4_init 36 = .ok (.putfield 24, 3) := by decide +kernel
theorem dX4_init_39 : decode cX4_init 39 = .ok (.aload_n 0, 1) := by decide +kernel
theorem dX4_init_40 : decode cX4_init 40 = .ok (.aload_n 1, 1) := by decide +kernel
theorem dX4_init_41 : decode cX4_init 41 = .ok (.putfield 27, 3) := by decide +kernel
theorem dX4_init_44 : decode cX4_init 44 = .ok (.aload_n 0, 1) := by decide +kernel
theorem dX4_init_45 : decode cX4_init 45 = .ok (.aload_n 2, 1) := by decide +kernel
theorem dX4_init_46 : decode cX4_init 46 = .ok (.putfield 31, 3) := by decide +kernel
theorem dX4_init_49 : decode cX4_init 49 = .ok (.return_, 1) := by decide +kernel
theorem dX4_findBest_0 : decode cX4_findBest 0 = .ok (.aload_n 0, 1) := by decide +kernel
theorem dX4_findBest_1 : decode cX4_findBest 1 = .ok (.getfield 27, 3) := by decide +kernel
theorem dX4_findBest_4 : decode cX4_findBest 4 = .ok (.invokevirtual 35, 3) := by decide +kernel
theorem dX4_findBest_7 : decode cX4_findBest 7 = .ok (.aload_n 0, 1) := by decide +kernel
theorem dX4_findBest_8 : decode cX4_findBest 8 = .ok (.iload_n 1, 1) := by decide +kernel
theorem dX4_findBest_9 : decode cX4_findBest 9 = .ok (.invokevirtual 40, 3) := by decide +kernel
theorem dX4_findBest_12 : decode cX4_findBest 12 = .ok (.return_, 1) := by decide +kernel
theorem dX4_compareWays_0 : decode cX4_compareWays 0 = .ok (.aload_n 0, 1) := by decide +kernel
theorem dX4_compareWays_1 : decode cX4_compareWays 1 = .ok (.getfield 27, 3) := by decide +kernel
theorem dX4_compareWays_4 : decode cX4_compareWays 4 = .ok (.getfield 44, 3) := by decide +kernel
theorem dX4_compareWays_7 : decode cX4_compareWays 7 = .ok (.iload_n 1, 1) := by decide +kernel
theorem dX4_compareWays_8 : decode cX4_compareWays 8 = .ok (.iaload, 1) := by decide +kernel
theorem dX4_compareWays_9 : decode cX4_compareWays 9 = .ok (.istore_n 2, 1) := by decide +kernel
theorem dX4_compareWays_10 : decode cX4_compareWays 10 = .ok (.aload_n 0, 1) := by decide +kernel
theorem dX4_compareWays_11 : decode cX4_compareWays 11 = .ok (.getfield 27, 3) := by decide +kernel
theorem dX4_compareWays_14 : decode cX4_compareWays 14 = .ok (.getfield 47, 3) := by decide +kernel
theorem dX4_compareWays_17 : decode cX4_compareWays 17 = .ok (.iload_n 1, 1) := by decide +kernel
theorem dX4_compareWays_18 : decode cX4_compareWays 18 = .ok (.iaload, 1) := by decide +kernel
theorem dX4_compareWays_19 : decode cX4_compareWays 19 = .ok (.istore_n 3, 1) := by decide +kernel
theorem dX4_compareWays_20 : decode cX4_compareWays 20 = .ok (.aload_n 0, 1) := by decide +kernel
theorem dX4_compareWays_21 : decode cX4_compareWays 21 = .ok (.getfield 31, 3) := by decide +kernel
theorem dX4_compareWays_24 : decode cX4_compareWays 24 = .ok (.iload_n 1, 1) := by decide +kernel
theorem dX4_compareWays_25 : decode cX4_compareWays 25 = .ok (.invokevirtual 50, 3) := by decide +kernel
theorem dX4_compareWays_28 : decode cX4_compareWays 28 = .ok (.aload_n 0, 1) := by decide +kernel
theorem dX4_compareWays_29 : decode cX4_compareWays 29 = .ok (.ldc2_w 55, 3) := by decide +kernel
theorem dX4_compareWays_32 : decode cX4_compareWays 32 = .ok (.putfield 57, 3) := by decide +kernel
theorem dX4_compareWays_35 : decode cX4_compareWays 35 = .ok (.aload_n 0, 1) := by decide +kernel
theorem dX4_compareWays_36 : decode cX4_compareWays 36 = .ok (.iload_n 1, 1) := by decide +kernel
theorem dX4_compareWays_37 : decode cX4_compareWays 37 = .ok (.iconst 4, 1) := by decide +kernel
theorem dX4_compareWays_38 : decode cX4_compareWays 38 = .ok (.invokevirtual 61, 3) := by decide +kernel
theorem dX4_compareWays_41 : decode cX4_compareWays 41 = .ok (.aload_n 0, 1) := by decide +kernel
theorem dX4_compareWays_42 : decode cX4_compareWays 42 = .ok (.getfield 27, 3) := by decide +kernel
theorem dX4_compareWays_45 : decode cX4_compareWays 45 = .ok (.getfield 65, 3) := by decide +kernel
theorem dX4_compareWays_48 : decode cX4_compareWays 48 = .ok (.iconst 1, 1) := by decide +kernel
theorem dX4_compareWays_49 : decode cX4_compareWays 49 = .ok (.isub, 1) := by decide +kernel
theorem dX4_compareWays_50 : decode cX4_compareWays 50 = .ok (.istore 4, 2) := by decide +kernel
theorem dX4_compareWays_52 : decode cX4_compareWays 52 = .ok (.iload 4, 2) := by decide +kernel
theorem dX4_compareWays_54 : decode cX4_compareWays 54 = .ok (.ifCond .lt 16, 3) := by decide +kernel
theorem dX4_compareWays_57 : decode cX4_compareWays 57 = .ok (.aload_n 0, 1) := by decide +kernel
theorem dX4_compareWays_58 : decode cX4_compareWays 58 = .ok (.iload_n 1, 1) := by decide +kernel
theorem dX4_compareWays_59 : decode cX4_compareWays 59 = .ok (.iload 4, 2) := by decide +kernel
theorem dX4_compareWays_61 : decode cX4_compareWays 61 = .ok (.invokevirtual 61, 3) := by decide +kernel
theorem dX4_compareWays_64 : decode cX4_compareWays 64 = .ok (.iinc 4 (-1), 3) := by decide +kernel
theorem dX4_compareWays_67 : decode cX4_compareWays 67 = .ok (.goto (-15), 3) := by decide +kernel
theorem dX4_compareWays_70 : decode cX4_compareWays 70 = .ok (.aload_n 0, 1) := by decide +kernel
theorem dX4_compareWays_71 : decode cX4_compareWays 71 = .ok (.getfield 27, 3) := by decide +kernel
theorem dX4_compareWays_74 : decode cX4_compareWays 74 = .ok (.getfield 44, 3) := by decide +kernel
theorem dX4_compareWays_77 : decode cX4_compareWays 77 = .ok (.iload_n 1, 1) := by decide +kernel
theorem dX4_compareWays_78 : decode cX4_compareWays 78 = .ok (.iload_n 2, 1) := by decide +kernel
theorem dX4_compareWays_79 : decode cX4_compareWays 79 = .ok (.iastore, 1) := by decide +kernel
theorem dX4_compareWays_80 : decode cX4_compareWays 80 = .ok (.aload_n 0, 1) := by decide +kernel
theorem dX4_compareWays_81 : decode cX4_compareWays 81 = .ok (.getfield 27, 3) := by decide +kernel
theorem dX4_compareWays_84 : decode cX4_compareWays 84 = .ok (.getfield 47, 3) := by decide +kernel
theorem dX4_compareWays_87 : decode cX4_compareWays 87 = .ok (.iload_n 1, 1) := by decide +kernel
theorem dX4_compareWays_88 : decode cX4_compareWays 88 = .ok (.iload_n 3, 1) := by decide +kernel
theorem dX4_compareWays_89 : decode cX4_compareWays 89 = .ok (.iastore, 1) := by decide +kernel
theorem dX4_compareWays_90 : decode cX4_compareWays 90 = .ok (.return_, 1) := by decide +kernel
theorem dX4_compareHolds_0 : decode cX4_compareHolds 0 = .ok (.iload_n 2, 1) := by decide +kernel
theorem dX4_compareHolds_1 : decode cX4_compareHolds 1 = .ok (.aload_n 0, 1) := by decide +kernel
theorem dX4_compareHolds_2 : decode cX4_compareHolds 2 = .ok (.getfield 27, 3) := by decide +kernel
theorem dX4_compareHolds_5 : decode cX4_compareHolds 5 = .ok (.getfield 65, 3) := by decide +kernel
theorem dX4_compareHolds_8 : decode cX4_compareHolds 8 = .ok (.invokestatic 69, 3) := by decide +kernel
theorem dX4_compareHolds_11 : decode cX4_compareHolds 11 = .ok (.istore_n 3, 1) := by decide +kernel
theorem dX4_compareHolds_12 : decode cX4_compareHolds 12 = .ok (.aload_n 0, 1) := by decide +kernel
theorem dX4_compareHolds_13 : decode cX4_compareHolds 13 = .ok (.getfield 27, 3) := by decide +kernel
theorem dX4_compareHolds_16 : decode cX4_compareHolds 16 = .ok (.getfield 47, 3) := by decide +kernel
theorem dX4_compareHolds_19 : decode cX4_compareHolds 19 = .ok (.iload_n 1, 1) := by decide +kernel
theorem dX4_compareHolds_20 : decode cX4_compareHolds 20 = .ok (.iload_n 2, 1) := by decide +kernel
theorem dX4_compareHolds_21 : decode cX4_compareHolds 21 = .ok (.iastore, 1) := by decide +kernel
theorem dX4_compareHolds_22 : decode cX4_compareHolds 22 = .ok (.iconst 0, 1) := by decide +kernel
theorem dX4_compareHolds_23 : decode cX4_compareHolds 23 = .ok (.istore 4, 2) := by decide +kernel
theorem dX4_compareHolds_25 : decode cX4_compareHolds 25 = .ok (.iload 4, 2) := by decide +kernel
theorem dX4_compareHolds_27 : decode cX4_compareHolds 27 = .ok (.iconst 1, 1) := by decide +kernel
theorem dX4_compareHolds_28 : decode cX4_compareHolds 28 = .ok (.iload_n 3, 1) := by decide +kernel
theorem dX4_compareHolds_29 : decode cX4_compareHolds 29 = .ok (.ishl, 1) := by decide +kernel
theorem dX4_compareHolds_30 : decode cX4_compareHolds 30 = .ok (.if_icmp .ge 65, 3) := by decide +kernel
theorem dX4_compareHolds_33 : decode cX4_compareHolds 33 = .ok (.aload_n 0, 1) := by decide +kernel
theorem dX4_compareHolds_34 : decode cX4_compareHolds 34 = .ok (.getfield 27, 3) := by decide +kernel
theorem dX4_compareHolds_37 : decode cX4_compareHolds 37 = .ok (.getfield 44, 3) := by decide +kernel
theorem dX4_compareHolds_40 : decode cX4_compareHolds 40 = .ok (.iload_n 1, 1) := by decide +kernel
theorem dX4_compareHolds_41 : decode cX4_compareHolds 41 = .ok (.iload 4, 2) := by decide +kernel
theorem dX4_compareHolds_43 : decode cX4_compareHolds 43 = .ok (.iastore, 1) := by decide +kernel
theorem dX4_compareHolds_44 : decode cX4_compareHolds 44 = .ok (.aload_n 0, 1) := by decide +kernel
theorem dX4_compareHolds_45 : decode cX4_compareHolds 45 = .ok (.getfield 31, 3) := by decide +kernel
theorem dX4_compareHolds_48 : decode cX4_compareHolds 48 = .ok (.iload_n 1, 1) := by decide +kernel
theorem dX4_compareHolds_49 : decode cX4_compareHolds 49 = .ok (.invokevirtual 75, 3) := by decide +kernel
theorem dX4_compareHolds_52 : decode cX4_compareHolds 52 = .ok (.aload_n 0, 1) := by decide +kernel
theorem dX4_compareHolds_53 : decode cX4_compareHolds 53 = .ok (.getfield 31, 3) := by decide +kernel
theorem dX4_compareHolds_56 : decode cX4_compareHolds 56 = .ok (.iload_n 1, 1) := by decide +kernel
theorem dX4_compareHolds_57 : decode cX4_compareHolds 57 = .ok (.invokevirtual 78, 3) := by decide +kernel
theorem dX4_compareHolds_60 : decode cX4_compareHolds 60 = .ok (.lstore 5, 2) := by decide +kernel
theorem dX4_compareHolds_62 : decode cX4_compareHolds 62 = .ok (.lload 5, 2) := by decide +kernel
theorem dX4_compareHolds_64 : decode cX4_compareHolds 64 = .ok (.aload_n 0, 1) := by decide +kernel
theorem dX4_compareHolds_65 : decode cX4_compareHolds 65 = .ok (.getfield 57, 3) := by decide +kernel
theorem dX4_compareHolds_68 : decode cX4_compareHolds 68 = .ok (.lcmp, 1) := by decide +kernel
theorem dX4_compareHolds_69 : decode cX4_compareHolds 69 = .ok (.ifCond .ge 20, 3) := by decide +kernel
theorem dX4_compareHolds_72 : decode cX4_compareHolds 72 = .ok (.aload_n 0, 1) := by decide +kernel
theorem dX4_compareHolds_73 : decode cX4_compareHolds 73 = .ok (.lload 5, 2) := by decide +kernel
theorem dX4_compareHolds_75 : decode cX4_compareHolds 75 = .ok (.putfield 57, 3) := by decide +kernel
theorem dX4_compareHolds_78 : decode cX4_compareHolds 78 = .ok (.aload_n 0, 1) := by decide +kernel
theorem dX4_compareHolds_79 : decode cX4_compareHolds 79 = .ok (.iload 4, 2) := by decide +kernel
theorem dX4_compareHolds_81 : decode cX4_compareHolds 81 = .ok (.putfield 82, 3) := by decide +kernel
theorem dX4_compareHolds_84 : decode cX4_compareHolds 84 = .ok (.aload_n 0, 1) := by decide +kernel
theorem dX4_compareHolds_85 : decode cX4_compareHolds 85 = .ok (.iload_n 2, 1) := by decide +kernel
theorem dX4_compareHolds_86 : decode cX4_compareHolds 86 = .ok (.putfield 85, 3) := by decide +kernel
theorem dX4_compareHolds_89 : decode cX4_compareHolds 89 = .ok (.iinc 4 1, 3) := by decide +kernel
theorem dX4_compareHolds_92 : decode cX4_compareHolds 92 = .ok (.goto (-67), 3) := by decide +kernel
theorem dX4_compareHolds_95 : decode cX4_compareHolds 95 = .ok (.return_, 1) := by decide +kernel
theorem dX4_settle_0 : decode cX4_settle 0 = .ok (.aload_n 0, 1) := by decide +kernel
theorem dX4_settle_1 : decode cX4_settle 1 = .ok (.getfield 27, 3) := by decide +kernel
theorem dX4_settle_4 : decode cX4_settle 4 = .ok (.invokevirtual 35, 3) := by decide +kernel
theorem dX4_settle_7 : decode cX4_settle 7 = .ok (.aload_n 0, 1) := by decide +kernel
theorem dX4_settle_8 : decode cX4_settle 8 = .ok (.iconst (-1), 1) := by decide +kernel
theorem dX4_settle_9 : decode cX4_settle 9 = .ok (.putfield 88, 3) := by decide +kernel
theorem dX4_settle_12 : decode cX4_settle 12 = .ok (.iconst 1, 1) := by decide +kernel
theorem dX4_settle_13 : decode cX4_settle 13 = .ok (.istore_n 1, 1) := by decide +kernel
theorem dX4_settle_14 : decode cX4_settle 14 = .ok (.iload_n 1, 1) := by decide +kernel
theorem dX4_settle_15 : decode cX4_settle 15 = .ok (.bipush 20, 2) := by decide +kernel
theorem dX4_settle_17 : decode cX4_settle 17 = .ok (.if_icmp .gt 29, 3) := by decide +kernel
theorem dX4_settle_20 : decode cX4_settle 20 = .ok (.aload_n 0, 1) := by decide +kernel
theorem dX4_settle_21 : decode cX4_settle 21 = .ok (.getfield 88, 3) := by decide +kernel
theorem dX4_settle_24 : decode cX4_settle 24 = .ok (.iconst (-1), 1) := by decide +kernel
theorem dX4_settle_25 : decode cX4_settle 25 = .ok (.if_icmp .ne 21, 3) := by decide +kernel
theorem dX4_settle_28 : decode cX4_settle 28 = .ok (.aload_n 0, 1) := by decide +kernel
theorem dX4_settle_29 : decode cX4_settle 29 = .ok (.invokevirtual 91, 3) := by decide +kernel
theorem dX4_settle_32 : decode cX4_settle 32 = .ok (.ifCond .ne 8, 3) := by decide +kernel
theorem dX4_settle_35 : decode cX4_settle 35 = .ok (.aload_n 0, 1) := by decide +kernel
theorem dX4_settle_36 : decode cX4_settle 36 = .ok (.iload_n 1, 1) := by decide +kernel
theorem dX4_settle_37 : decode cX4_settle 37 = .ok (.putfield 88, 3) := by decide +kernel
theorem dX4_settle_40 : decode cX4_settle 40 = .ok (.iinc 1 1, 3) := by decide +kernel
theorem dX4_settle_43 : decode cX4_settle 43 = .ok (.goto (-29), 3) := by decide +kernel
theorem dX4_settle_46 : decode cX4_settle 46 = .ok (.aload_n 0, 1) := by decide +kernel
theorem dX4_settle_47 : decode cX4_settle 47 = .ok (.getfield 27, 3) := by decide +kernel
theorem dX4_settle_50 : decode cX4_settle 50 = .ok (.getfield 44, 3) := by decide +kernel
theorem dX4_settle_53 : decode cX4_settle 53 = .ok (.iconst 0, 1) := by decide +kernel
theorem dX4_settle_54 : decode cX4_settle 54 = .ok (.aload_n 0, 1) := by decide +kernel
theorem dX4_settle_55 : decode cX4_settle 55 = .ok (.getfield 9, 3) := by decide +kernel
theorem dX4_settle_58 : decode cX4_settle 58 = .ok (.iconst 0, 1) := by decide +kernel
theorem dX4_settle_59 : decode cX4_settle 59 = .ok (.iconst 4, 1) := by decide +kernel
theorem dX4_settle_60 : decode cX4_settle 60 = .ok (.invokestatic 95, 3) := by decide +kernel
theorem dX4_settle_63 : decode cX4_settle 63 = .ok (.aload_n 0, 1) := by decide +kernel
theorem dX4_settle_64 : decode cX4_settle 64 = .ok (.getfield 27, 3) := by decide +kernel
theorem dX4_settle_67 : decode cX4_settle 67 = .ok (.getfield 47, 3) := by decide +kernel
theorem dX4_settle_70 : decode cX4_settle 70 = .ok (.iconst 0, 1) := by decide +kernel
theorem dX4_settle_71 : decode cX4_settle 71 = .ok (.aload_n 0, 1) := by decide +kernel
theorem dX4_settle_72 : decode cX4_settle 72 = .ok (.getfield 15, 3) := by decide +kernel
theorem dX4_settle_75 : decode cX4_settle 75 = .ok (.iconst 0, 1) := by decide +kernel
theorem dX4_settle_76 : decode cX4_settle 76 = .ok (.iconst 4, 1) := by decide +kernel
theorem dX4_settle_77 : decode cX4_settle 77 = .ok (.invokestatic 95, 3) := by decide +kernel
theorem dX4_settle_80 : decode cX4_settle 80 = .ok (.return_, 1) := by decide +kernel
theorem dX4_roundChanges_0 : decode cX4_roundChanges 0 = .ok (.iconst 0, 1) := by decide +kernel
theorem dX4_roundChanges_1 : decode cX4_roundChanges 1 = .ok (.istore_n 1, 1) := by decide +kernel
theorem dX4_roundChanges_2 : decode cX4_roundChanges 2 = .ok (.iconst 0, 1) := by decide +kernel
theorem dX4_roundChanges_3 : decode cX4_roundChanges 3 = .ok (.istore_n 2, 1) := by decide +kernel
theorem dX4_roundChanges_4 : decode cX4_roundChanges 4 = .ok (.iload_n 2, 1) := by decide +kernel
theorem dX4_roundChanges_5 : decode cX4_roundChanges 5 = .ok (.aload_n 0, 1) := by decide +kernel
theorem dX4_roundChanges_6 : decode cX4_roundChanges 6 = .ok (.getfield 27, 3) := by decide +kernel
theorem dX4_roundChanges_9 : decode cX4_roundChanges 9 = .ok (.getfield 101, 3) := by decide +kernel
theorem dX4_roundChanges_12 : decode cX4_roundChanges 12 = .ok (.if_icmp .ge 67, 3) := by decide +kernel
theorem dX4_roundChanges_15 : decode cX4_roundChanges 15 = .ok (.aload_n 0, 1) := by decide +kernel
theorem dX4_roundChanges_16 : decode cX4_roundChanges 16 = .ok (.getfield 31, 3) := by decide +kernel
theorem dX4_roundChanges_19 : decode cX4_roundChanges 19 = .ok (.invokevirtual 104, 3) := by decide +kernel
theorem dX4_roundChanges_22 : decode cX4_roundChanges 22 = .ok (.aload_n 0, 1) := by decide +kernel
theorem dX4_roundChanges_23 : decode cX4_roundChanges 23 = .ok (.getfield 31, 3) := by decide +kernel
theorem dX4_roundChanges_26 : decode cX4_roundChanges 26 = .ok (.iload_n 2, 1) := by decide +kernel
theorem dX4_roundChanges_27 : decode cX4_roundChanges 27 = .ok (.invokevirtual 78, 3) := by decide +kernel
theorem dX4_roundChanges_30 : decode cX4_roundChanges 30 = .ok (.lstore_n 3, 1) := by decide +kernel
theorem dX4_roundChanges_31 : decode cX4_roundChanges 31 = .ok (.aload_n 0, 1) := by decide +kernel
theorem dX4_roundChanges_32 : decode cX4_roundChanges 32 = .ok (.iload_n 2, 1) := by decide +kernel
theorem dX4_roundChanges_33 : decode cX4_roundChanges 33 = .ok (.invokevirtual 40, 3) := by decide +kernel
theorem dX4_roundChanges_36 : decode cX4_roundChanges 36 = .ok (.aload_n 0, 1) := by decide +kernel
theorem dX4_roundChanges_37 : decode cX4_roundChanges 37 = .ok (.getfield 57, 3) := by decide +kernel
theorem dX4_roundChanges_40 : decode cX4_roundChanges 40 = .ok (.lload_n 3, 1) := by decide +kernel
theorem dX4_roundChanges_41 : decode cX4_roundChanges 41 = .ok (.lcmp, 1) := by decide +kernel
theorem dX4_roundChanges_42 : decode cX4_roundChanges 42 = .ok (.ifCond .ge 31, 3) := by decide +kernel
theorem dX4_roundChanges_45 : decode cX4_roundChanges 45 = .ok (.aload_n 0, 1) := by decide +kernel
theorem dX4_roundChanges_46 : decode cX4_roundChanges 46 = .ok (.getfield 27, 3) := by decide +kernel
theorem dX4_roundChanges_49 : decode cX4_roundChanges 49 = .ok (.getfield 44, 3) := by decide +kernel
theorem dX4_roundChanges_52 : decode cX4_roundChanges 52 = .ok (.iload_n 2, 1) := by decide +kernel
theorem dX4_roundChanges_53 : decode cX4_roundChanges 53 = .ok (.aload_n 0, 1) := by decide +kernel
theorem dX4_roundChanges_54 : decode cX4_roundChanges 54 = .ok (.getfield 82, 3) := by decide +kernel
theorem dX4_roundChanges_57 : decode cX4_roundChanges 57 = .ok (.iastore, 1) := by decide +kernel
theorem dX4_roundChanges_58 : decode cX4_roundChanges 58 = .ok (.aload_n 0, 1) := by decide +kernel
theorem dX4_roundChanges_59 : decode cX4_roundChanges 59 = .ok (.getfield 27, 3) := by decide +kernel
theorem dX4_roundChanges_62 : decode cX4_roundChanges 62 = .ok (.getfield 47, 3) := by decide +kernel
theorem dX4_roundChanges_65 : decode cX4_roundChanges 65 = .ok (.iload_n 2, 1) := by decide +kernel
theorem dX4_roundChanges_66 : decode cX4_roundChanges 66 = .ok (.aload_n 0, 1) := by decide +kernel
theorem dX4_roundChanges_67 : decode cX4_roundChanges 67 = .ok (.getfield 85, 3) := by decide +kernel
theorem dX4_roundChanges_70 : decode cX4_roundChanges 70 = .ok (.iastore, 1) := by decide +kernel
theorem dX4_roundChanges_71 : decode cX4_roundChanges 71 = .ok (.iconst 1, 1) := by decide +kernel
theorem dX4_roundChanges_72 : decode cX4_roundChanges 72 = .ok (.istore_n 1, 1) := by decide +kernel
theorem dX4_roundChanges_73 : decode cX4_roundChanges 73 = .ok (.iinc 2 1, 3) := by decide +kernel
theorem dX4_roundChanges_76 : decode cX4_roundChanges 76 = .ok (.goto (-72), 3) := by decide +kernel
theorem dX4_roundChanges_79 : decode cX4_roundChanges 79 = .ok (.iload_n 1, 1) := by decide +kernel
theorem dX4_roundChanges_80 : decode cX4_roundChanges 80 = .ok (.ireturn, 1) := by decide +kernel
theorem dX4_findOrder_0 : decode cX4_findOrder 0 = .ok (.aload_n 0, 1) := by decide +kernel
theorem dX4_findOrder_1 : decode cX4_findOrder 1 = .ok (.getfield 27, 3) := by decide +kernel
theorem dX4_findOrder_4 : decode cX4_findOrder 4 = .ok (.invokevirtual 35, 3) := by decide +kernel
theorem dX4_findOrder_7 : decode cX4_findOrder 7 = .ok (.aload_n 0, 1) := by decide +kernel
theorem dX4_findOrder_8 : decode cX4_findOrder 8 = .ok (.getfield 27, 3) := by decide +kernel
theorem dX4_findOrder_11 : decode cX4_findOrder 11 = .ok (.getfield 107, 3) := by decide +kernel
theorem dX4_findOrder_14 : decode cX4_findOrder 14 = .ok (.iconst 0, 1) := by decide +kernel
theorem dX4_findOrder_15 : decode cX4_findOrder 15 = .ok (.aload_n 0, 1) := by decide +kernel
theorem dX4_findOrder_16 : decode cX4_findOrder 16 = .ok (.getfield 24, 3) := by decide +kernel
theorem dX4_findOrder_19 : decode cX4_findOrder 19 = .ok (.iconst 0, 1) := by decide +kernel
theorem dX4_findOrder_20 : decode cX4_findOrder 20 = .ok (.iconst 4, 1) := by decide +kernel
theorem dX4_findOrder_21 : decode cX4_findOrder 21 = .ok (.invokestatic 95, 3) := by decide +kernel
theorem dX4_findOrder_24 : decode cX4_findOrder 24 = .ok (.ldc2_w 55, 3) := by decide +kernel
theorem dX4_findOrder_27 : decode cX4_findOrder 27 = .ok (.lstore_n 2, 1) := by decide +kernel
theorem dX4_findOrder_28 : decode cX4_findOrder 28 = .ok (.iconst 0, 1) := by decide +kernel
theorem dX4_findOrder_29 : decode cX4_findOrder 29 = .ok (.istore 4, 2) := by decide +kernel
theorem dX4_findOrder_31 : decode cX4_findOrder 31 = .ok (.iload 4, 2) := by decide +kernel
theorem dX4_findOrder_33 : decode cX4_findOrder 33 = .ok (.iconst 1, 1) := by decide +kernel
theorem dX4_findOrder_34 : decode cX4_findOrder 34 = .ok (.iconst 2, 1) := by decide +kernel
theorem dX4_findOrder_35 : decode cX4_findOrder 35 = .ok (.aload_n 0, 1) := by decide +kernel
theorem dX4_findOrder_36 : decode cX4_findOrder 36 = .ok (.getfield 27, 3) := by decide +kernel
theorem dX4_findOrder_39 : decode cX4_findOrder 39 = .ok (.getfield 65, 3) := by decide +kernel
theorem dX4_findOrder_42 : decode cX4_findOrder 42 = .ok (.imul, 1) := by decide +kernel
theorem dX4_findOrder_43 : decode cX4_findOrder 43 = .ok (.ishl, 1) := by decide +kernel
theorem dX4_findOrder_44 : decode cX4_findOrder 44 = .ok (.if_icmp .ge 63, 3) := by decide +kernel
theorem dX4_findOrder_47 : decode cX4_findOrder 47 = .ok (.aload_n 0, 1) := by decide +kernel
theorem dX4_findOrder_48 : decode cX4_findOrder 48 = .ok (.iload 4, 2) := by decide +kernel
theorem dX4_findOrder_50 : decode cX4_findOrder 50 = .ok (.invokevirtual 110, 3) := by decide +kernel
theorem dX4_findOrder_53 : decode cX4_findOrder 53 = .ok (.ifCond .eq 48, 3) := by decide +kernel
theorem dX4_findOrder_56 : decode cX4_findOrder 56 = .ok (.aload_n 0, 1) := by decide +kernel
theorem dX4_findOrder_57 : decode cX4_findOrder 57 = .ok (.getfield 31, 3) := by decide +kernel
theorem dX4_findOrder_60 : decode cX4_findOrder 60 = .ok (.invokevirtual 104, 3) := by decide +kernel
theorem dX4_findOrder_63 : decode cX4_findOrder 63 = .ok (.aload_n 0, 1) := by decide +kernel
theorem dX4_findOrder_64 : decode cX4_findOrder 64 = .ok (.getfield 31, 3) := by decide +kernel
theorem dX4_findOrder_67 : decode cX4_findOrder 67 = .ok (.getfield 114, 3) := by decide +kernel
theorem dX4_findOrder_70 : decode cX4_findOrder 70 = .ok (.iload_n 1, 1) := by decide +kernel
theorem dX4_findOrder_71 : decode cX4_findOrder 71 = .ok (.laload, 1) := by decide +kernel
theorem dX4_findOrder_72 : decode cX4_findOrder 72 = .ok (.lload_n 2, 1) := by decide +kernel
theorem dX4_findOrder_73 : decode cX4_findOrder 73 = .ok (.lcmp, 1) := by decide +kernel
theorem dX4_findOrder_74 : decode cX4_findOrder 74 = .ok (.ifCond .ge 27, 3) := by decide +kernel
theorem dX4_findOrder_77 : decode cX4_findOrder 77 = .ok (.aload_n 0, 1) := by decide +kernel
theorem dX4_findOrder_78 : decode cX4_findOrder 78 = .ok (.getfield 31, 3) := by decide +kernel
theorem dX4_findOrder_81 : decode cX4_findOrder 81 = .ok (.getfield 114, 3) := by decide +kernel
theorem dX4_findOrder_84 : decode cX4_findOrder 84 = .ok (.iload_n 1, 1) := by decide +kernel
theorem dX4_findOrder_85 : decode cX4_findOrder 85 = .ok (.laload, 1) := by decide +kernel
theorem dX4_findOrder_86 : decode cX4_findOrder 86 = .ok (.lstore_n 2, 1) := by decide +kernel
theorem dX4_findOrder_87 : decode cX4_findOrder 87 = .ok (.aload_n 0, 1) := by decide +kernel
theorem dX4_findOrder_88 : decode cX4_findOrder 88 = .ok (.getfield 21, 3) := by decide +kernel
theorem dX4_findOrder_91 : decode cX4_findOrder 91 = .ok (.iconst 0, 1) := by decide +kernel
theorem dX4_findOrder_92 : decode cX4_findOrder 92 = .ok (.aload_n 0, 1) := by decide +kernel
theorem dX4_findOrder_93 : decode cX4_findOrder 93 = .ok (.getfield 18, 3) := by decide +kernel
theorem dX4_findOrder_96 : decode cX4_findOrder 96 = .ok (.iconst 0, 1) := by decide +kernel
theorem dX4_findOrder_97 : decode cX4_findOrder 97 = .ok (.iconst 4, 1) := by decide +kernel
theorem dX4_findOrder_98 : decode cX4_findOrder 98 = .ok (.invokestatic 95, 3) := by decide +kernel
theorem dX4_findOrder_101 : decode cX4_findOrder 101 = .ok (.iinc 4 1, 3) := by decide +kernel
theorem dX4_findOrder_104 : decode cX4_findOrder 104 = .ok (.goto (-73), 3) := by decide +kernel
theorem dX4_findOrder_107 : decode cX4_findOrder 107 = .ok (.return_, 1) := by decide +kernel
theorem dX4_setRow_0 : decode cX4_setRow 0 = .ok (.iconst 0, 1) := by decide +kernel
theorem dX4_setRow_1 : decode cX4_setRow 1 = .ok (.istore_n 2, 1) := by decide +kernel
theorem dX4_setRow_2 : decode cX4_setRow 2 = .ok (.iconst 0, 1) := by decide +kernel
theorem dX4_setRow_3 : decode cX4_setRow 3 = .ok (.istore_n 3, 1) := by decide +kernel
theorem dX4_setRow_4 : decode cX4_setRow 4 = .ok (.iload_n 3, 1) := by decide +kernel
theorem dX4_setRow_5 : decode cX4_setRow 5 = .ok (.aload_n 0, 1) := by decide +kernel
theorem dX4_setRow_6 : decode cX4_setRow 6 = .ok (.getfield 27, 3) := by decide +kernel
theorem dX4_setRow_9 : decode cX4_setRow 9 = .ok (.getfield 65, 3) := by decide +kernel
theorem dX4_setRow_12 : decode cX4_setRow 12 = .ok (.if_icmp .ge 82, 3) := by decide +kernel
theorem dX4_setRow_15 : decode cX4_setRow 15 = .ok (.iload_n 1, 1) := by decide +kernel
theorem dX4_setRow_16 : decode cX4_setRow 16 = .ok (.iconst 2, 1) := by decide +kernel
theorem dX4_setRow_17 : decode cX4_setRow 17 = .ok (.aload_n 0, 1) := by decide +kernel
theorem dX4_setRow_18 : decode cX4_setRow 18 = .ok (.getfield 27, 3) := by decide +kernel
theorem dX4_setRow_21 : decode cX4_setRow 21 = .ok (.getfield 65, 3) := by decide +kernel
theorem dX4_setRow_24 : decode cX4_setRow 24 = .ok (.iconst 1, 1) := by decide +kernel
theorem dX4_setRow_25 : decode cX4_setRow 25 = .ok (.isub, 1) := by decide +kernel
theorem dX4_setRow_26 : decode cX4_setRow 26 = .ok (.iload_n 3, 1) := by decide +kernel
theorem dX4_setRow_27 : decode cX4_setRow 27 = .ok (.isub, 1) := by decide +kernel
theorem dX4_setRow_28 : decode cX4_setRow 28 = .ok (.imul, 1) := by decide +kernel
theorem dX4_setRow_29 : decode cX4_setRow 29 = .ok (.ishr, 1) := by decide +kernel
theorem dX4_setRow_30 : decode cX4_setRow 30 = .ok (.iconst 3, 1) := by decide +kernel
theorem dX4_setRow_31 : decode cX4_setRow 31 = .ok (.iand, 1) := by decide +kernel
theorem dX4_setRow_32 : decode cX4_setRow 32 = .ok (.istore 4, 2) := by decide +kernel
theorem dX4_setRow_34 : decode cX4_setRow 34 = .ok (.iload 4, 2) := by decide +kernel
theorem dX4_setRow_36 : decode cX4_setRow 36 = .ok (.aload_n 0, 1) := by decide +kernel
theorem dX4_setRow_37 : decode cX4_setRow 37 = .ok (.getfield 27, 3) := by decide +kernel
theorem dX4_setRow_40 : decode cX4_setRow 40 = .ok (.getfield 65, 3) := by decide +kernel
theorem dX4_setRow_43 : decode cX4_setRow 43 = .ok (.if_icmp .ge 12, 3) := by decide +kernel
theorem dX4_setRow_46 : decode cX4_setRow 46 = .ok (.iload_n 2, 1) := by decide +kernel
theorem dX4_setRow_47 : decode cX4_setRow 47 = .ok (.iload 4, 2) := by decide +kernel
theorem dX4_setRow_49 : decode cX4_setRow 49 = .ok (.invokestatic 118, 3) := by decide +kernel
theorem dX4_setRow_52 : decode cX4_setRow 52 = .ok (.ifCond .eq 5, 3) := by decide +kernel
theorem dX4_setRow_55 : decode cX4_setRow 55 = .ok (.iconst 0, 1) := by decide +kernel
theorem dX4_setRow_56 : decode cX4_setRow 56 = .ok (.ireturn, 1) := by decide +kernel
theorem dX4_setRow_57 : decode cX4_setRow 57 = .ok (.iload_n 2, 1) := by decide +kernel
theorem dX4_setRow_58 : decode cX4_setRow 58 = .ok (.iconst 1, 1) := by decide +kernel
theorem dX4_setRow_59 : decode cX4_setRow 59 = .ok (.iload 4, 2) := by decide +kernel
theorem dX4_setRow_61 : decode cX4_setRow 61 = .ok (.ishl, 1) := by decide +kernel
theorem dX4_setRow_62 : decode cX4_setRow 62 = .ok (.ior, 1) := by decide +kernel
theorem dX4_setRow_63 : decode cX4_setRow 63 = .ok (.istore_n 2, 1) := by decide +kernel
theorem dX4_setRow_64 : decode cX4_setRow 64 = .ok (.aload_n 0, 1) := by decide +kernel
theorem dX4_setRow_65 : decode cX4_setRow 65 = .ok (.getfield 21, 3) := by decide +kernel
theorem dX4_setRow_68 : decode cX4_setRow 68 = .ok (.iload_n 3, 1) := by decide +kernel
theorem dX4_setRow_69 : decode cX4_setRow 69 = .ok (.iload 4, 2) := by decide +kernel
theorem dX4_setRow_71 : decode cX4_setRow 71 = .ok (.iastore, 1) := by decide +kernel
theorem dX4_setRow_72 : decode cX4_setRow 72 = .ok (.aload_n 0, 1) := by decide +kernel
theorem dX4_setRow_73 : decode cX4_setRow 73 = .ok (.getfield 27, 3) := by decide +kernel
theorem dX4_setRow_76 : decode cX4_setRow 76 = .ok (.getfield 107, 3) := by decide +kernel
theorem dX4_setRow_79 : decode cX4_setRow 79 = .ok (.iload_n 3, 1) := by decide +kernel
theorem dX4_setRow_80 : decode cX4_setRow 80 = .ok (.aload_n 0, 1) := by decide +kernel
theorem dX4_setRow_81 : decode cX4_setRow 81 = .ok (.getfield 24, 3) := by decide +kernel
theorem dX4_setRow_84 : decode cX4_setRow 84 = .ok (.iload 4, 2) := by decide +kernel
theorem dX4_setRow_86 : decode cX4_setRow 86 = .ok (.iaload, 1) := by decide +kernel
theorem dX4_setRow_87 : decode cX4_setRow 87 = .ok (.iastore, 1) := by decide +kernel
theorem dX4_setRow_88 : decode cX4_setRow 88 = .ok (.iinc 3 1, 3) := by decide +kernel
theorem dX4_setRow_91 : decode cX4_setRow 91 = .ok (.goto (-87), 3) := by decide +kernel
theorem dX4_setRow_94 : decode cX4_setRow 94 = .ok (.iconst 1, 1) := by decide +kernel
theorem dX4_setRow_95 : decode cX4_setRow 95 = .ok (.ireturn, 1) := by decide +kernel
theorem dX4_bestCompany_0 : decode cX4_bestCompany 0 = .ok (.aload_n 0, 1) := by decide +kernel
theorem dX4_bestCompany_1 : decode cX4_bestCompany 1 = .ok (.getfield 27, 3) := by decide +kernel
theorem dX4_bestCompany_4 : decode cX4_bestCompany 4 = .ok (.invokevirtual 35, 3) := by decide +kernel
theorem dX4_bestCompany_7 : decode cX4_bestCompany 7 = .ok (.aload_n 0, 1) := by decide +kernel
theorem dX4_bestCompany_8 : decode cX4_bestCompany 8 = .ok (.getfield 27, 3) := by decide +kernel
theorem dX4_bestCompany_11 : decode cX4_bestCompany 11 = .ok (.getfield 101, 3) := by decide +kernel
theorem dX4_bestCompany_14 : decode cX4_bestCompany 14 = .ok (.iconst 2, 1) := by decide +kernel
theorem dX4_bestCompany_15 : decode cX4_bestCompany 15 = .ok (.if_icmp .ge 6, 3) := by decide +kernel
theorem dX4_bestCompany_18 : decode cX4_bestCompany 18 = .ok (.bipush (-3), 2) := by decide +kernel
theorem dX4_bestCompany_20 : decode cX4_bestCompany 20 = .ok (.ireturn, 1) := by decide +kernel
theorem dX4_bestCompany_21 : decode cX4_bestCompany 21 = .ok (.iconst 1, 1) := by decide +kernel
theorem dX4_bestCompany_22 : decode cX4_bestCompany 22 = .ok (.aload_n 0, 1) := by decide +kernel
theorem dX4_bestCompany_23 : decode cX4_bestCompany 23 = .ok (.getfield 27, 3) := by decide +kernel
theorem dX4_bestCompany_26 : decode cX4_bestCompany 26 = .ok (.getfield 101, 3) := by decide +kernel
theorem dX4_bestCompany_29 : decode cX4_bestCompany 29 = .ok (.ishl, 1) := by decide +kernel
theorem dX4_bestCompany_30 : decode cX4_bestCompany 30 = .ok (.iconst 1, 1) := by decide +kernel
theorem dX4_bestCompany_31 : decode cX4_bestCompany 31 = .ok (.isub, 1) := by decide +kernel
theorem dX4_bestCompany_32 : decode cX4_bestCompany 32 = .ok (.iconst 1, 1) := by decide +kernel
theorem dX4_bestCompany_33 : decode cX4_bestCompany 33 = .ok (.iload_n 1, 1) := by decide +kernel
theorem dX4_bestCompany_34 : decode cX4_bestCompany 34 = .ok (.ishl, 1) := by decide +kernel
theorem dX4_bestCompany_35 : decode cX4_bestCompany 35 = .ok (.iconst (-1), 1) := by decide +kernel
theorem dX4_bestCompany_36 : decode cX4_bestCompany 36 = .ok (.ixor, 1) := by decide +kernel
theorem dX4_bestCompany_37 : decode cX4_bestCompany 37 = .ok (.iand, 1) := by decide +kernel
theorem dX4_bestCompany_38 : decode cX4_bestCompany 38 = .ok (.istore_n 2, 1) := by decide +kernel
theorem dX4_bestCompany_39 : decode cX4_bestCompany 39 = .ok (.iconst 1, 1) := by decide +kernel
theorem dX4_bestCompany_40 : decode cX4_bestCompany 40 = .ok (.aload_n 0, 1) := by decide +kernel
theorem dX4_bestCompany_41 : decode cX4_bestCompany 41 = .ok (.getfield 27, 3) := by decide +kernel
theorem dX4_bestCompany_44 : decode cX4_bestCompany 44 = .ok (.getfield 122, 3) := by decide +kernel
theorem dX4_bestCompany_47 : decode cX4_bestCompany 47 = .ok (.ishl, 1) := by decide +kernel
theorem dX4_bestCompany_48 : decode cX4_bestCompany 48 = .ok (.iload_n 2, 1) := by decide +kernel
theorem dX4_bestCompany_49 : decode cX4_bestCompany 49 = .ok (.iand, 1) := by decide +kernel
theorem dX4_bestCompany_50 : decode cX4_bestCompany 50 = .ok (.istore_n 3, 1) := by decide +kernel
theorem dX4_bestCompany_51 : decode cX4_bestCompany 51 = .ok (.iload_n 2, 1) := by decide +kernel
theorem dX4_bestCompany_52 : decode cX4_bestCompany 52 = .ok (.istore 4, 2) := by decide +kernel
theorem dX4_bestCompany_54 : decode cX4_bestCompany 54 = .ok (.ldc2_w 55, 3) := by decide +kernel
theorem dX4_bestCompany_57 : decode cX4_bestCompany 57 = .ok (.lstore 5, 2) := by decide +kernel
theorem dX4_bestCompany_59 : decode cX4_bestCompany 59 = .ok (.iconst 1, 1) := by decide +kernel
theorem dX4_bestCompany_60 : decode cX4_bestCompany 60 = .ok (.istore 7, 2) := by decide +kernel
theorem dX4_bestCompany_62 : decode cX4_bestCompany 62 = .ok (.iload 7, 2) := by decide +kernel
theorem dX4_bestCompany_64 : decode cX4_bestCompany 64 = .ok (.iload_n 2, 1) := by decide +kernel
theorem dX4_bestCompany_65 : decode cX4_bestCompany 65 = .ok (.if_icmp .gt 76, 3) := by decide +kernel
theorem dX4_bestCompany_68 : decode cX4_bestCompany 68 = .ok (.iload 7, 2) := by decide +kernel
theorem dX4_bestCompany_70 : decode cX4_bestCompany 70 = .ok (.iload_n 2, 1) := by decide +kernel
theorem dX4_bestCompany_71 : decode cX4_bestCompany 71 = .ok (.iconst (-1), 1) := by decide +kernel
theorem dX4_bestCompany_72 : decode cX4_bestCompany 72 = .ok (.ixor, 1) := by decide +kernel
theorem dX4_bestCompany_73 : decode cX4_bestCompany 73 = .ok (.iand, 1) := by decide +kernel
theorem dX4_bestCompany_74 : decode cX4_bestCompany 74 = .ok (.ifCond .ne 61, 3) := by decide +kernel
theorem dX4_bestCompany_77 : decode cX4_bestCompany 77 = .ok (.iload 7, 2) := by decide +kernel
theorem dX4_bestCompany_79 : decode cX4_bestCompany 79 = .ok (.iload_n 3, 1) := by decide +kernel
theorem dX4_bestCompany_80 : decode cX4_bestCompany 80 = .ok (.iand, 1) := by decide +kernel
theorem dX4_bestCompany_81 : decode cX4_bestCompany 81 = .ok (.iload_n 3, 1) := by decide +kernel
theorem dX4_bestCompany_82 : decode cX4_bestCompany 82 = .ok (.if_icmp .ne 53, 3) := by decide +kernel
theorem dX4_bestCompany_85 : decode cX4_bestCompany 85 = .ok (.aload_n 0, 1) := by decide +kernel
theorem dX4_bestCompany_86 : decode cX4_bestCompany 86 = .ok (.getfield 27, 3) := by decide +kernel
theorem dX4_bestCompany_89 : decode cX4_bestCompany 89 = .ok (.iload_n 2, 1) := by decide +kernel
theorem dX4_bestCompany_90 : decode cX4_bestCompany 90 = .ok (.iload 7, 2) := by decide +kernel
theorem dX4_bestCompany_92 : decode cX4_bestCompany 92 = .ok (.iconst (-1), 1) := by decide +kernel
theorem dX4_bestCompany_93 : decode cX4_bestCompany 93 = .ok (.ixor, 1) := by decide +kernel
theorem dX4_bestCompany_94 : decode cX4_bestCompany 94 = .ok (.iand, 1) := by decide +kernel
theorem dX4_bestCompany_95 : decode cX4_bestCompany 95 = .ok (.putfield 125, 3) := by decide +kernel
theorem dX4_bestCompany_98 : decode cX4_bestCompany 98 = .ok (.aload_n 0, 1) := by decide +kernel
theorem dX4_bestCompany_99 : decode cX4_bestCompany 99 = .ok (.getfield 31, 3) := by decide +kernel
theorem dX4_bestCompany_102 : decode cX4_bestCompany 102 = .ok (.invokevirtual 104, 3) := by decide +kernel
theorem dX4_bestCompany_105 : decode cX4_bestCompany 105 = .ok (.aload_n 0, 1) := by decide +kernel
theorem dX4_bestCompany_106 : decode cX4_bestCompany 106 = .ok (.getfield 31, 3) := by decide +kernel
theorem dX4_bestCompany_109 : decode cX4_bestCompany 109 = .ok (.getfield 114, 3) := by decide +kernel
theorem dX4_bestCompany_112 : decode cX4_bestCompany 112 = .ok (.iload_n 1, 1) := by decide +kernel
theorem dX4_bestCompany_113 : decode cX4_bestCompany 113 = .ok (.laload, 1) := by decide +kernel
theorem dX4_bestCompany_114 : decode cX4_bestCompany 114 = .ok (.lload 5, 2) := by decide +kernel
theorem dX4_bestCompany_116 : decode cX4_bestCompany 116 = .ok (.lcmp, 1) := by decide +kernel
theorem dX4_bestCompany_117 : decode cX4_bestCompany 117 = .ok (.ifCond .ge 18, 3) := by decide +kernel
theorem dX4_bestCompany_120 : decode cX4_bestCompany 120 = .ok (.aload_n 0, 1) := by decide +kernel
theorem dX4_bestCompany_121 : decode cX4_bestCompany 121 = .ok (.getfield 31, 3) := by decide +kernel
theorem dX4_bestCompany_124 : decode cX4_bestCompany 124 = .ok (.getfield 114, 3) := by decide +kernel
theorem dX4_bestCompany_127 : decode cX4_bestCompany 127 = .ok (.iload_n 1, 1) := by decide +kernel
theorem dX4_bestCompany_128 : decode cX4_bestCompany 128 = .ok (.laload, 1) := by decide +kernel
theorem dX4_bestCompany_129 : decode cX4_bestCompany 129 = .ok (.lstore 5, 2) := by decide +kernel
theorem dX4_bestCompany_131 : decode cX4_bestCompany 131 = .ok (.iload 7, 2) := by decide +kernel
theorem dX4_bestCompany_133 : decode cX4_bestCompany 133 = .ok (.istore 4, 2) := by decide +kernel
theorem dX4_bestCompany_135 : decode cX4_bestCompany 135 = .ok (.iinc 7 1, 3) := by decide +kernel
theorem dX4_bestCompany_138 : decode cX4_bestCompany 138 = .ok (.goto (-76), 3) := by decide +kernel
theorem dX4_bestCompany_141 : decode cX4_bestCompany 141 = .ok (.iload 4, 2) := by decide +kernel
theorem dX4_bestCompany_143 : decode cX4_bestCompany 143 = .ok (.ireturn, 1) := by decide +kernel
theorem dX4_bestLaw_0 : decode cX4_bestLaw 0 = .ok (.aload_n 0, 1) := by decide +kernel
theorem dX4_bestLaw_1 : decode cX4_bestLaw 1 = .ok (.getfield 27, 3) := by decide +kernel
theorem dX4_bestLaw_4 : decode cX4_bestLaw 4 = .ok (.invokevirtual 35, 3) := by decide +kernel
theorem dX4_bestLaw_7 : decode cX4_bestLaw 7 = .ok (.iconst 0, 1) := by decide +kernel
theorem dX4_bestLaw_8 : decode cX4_bestLaw 8 = .ok (.istore_n 2, 1) := by decide +kernel
theorem dX4_bestLaw_9 : decode cX4_bestLaw 9 = .ok (.ldc2_w 55, 3) := by decide +kernel
theorem dX4_bestLaw_12 : decode cX4_bestLaw 12 = .ok (.lstore_n 3, 1) := by decide +kernel
theorem dX4_bestLaw_13 : decode cX4_bestLaw 13 = .ok (.iconst 0, 1) := by decide +kernel
theorem dX4_bestLaw_14 : decode cX4_bestLaw 14 = .ok (.istore 5, 2) := by decide +kernel
theorem dX4_bestLaw_16 : decode cX4_bestLaw 16 = .ok (.iload 5, 2) := by decide +kernel
theorem dX4_bestLaw_18 : decode cX4_bestLaw 18 = .ok (.bipush 9, 2) := by decide +kernel
theorem dX4_bestLaw_20 : decode cX4_bestLaw 20 = .ok (.if_icmp .ge 65, 3) := by decide +kernel
theorem dX4_bestLaw_23 : decode cX4_bestLaw 23 = .ok (.aload_n 0, 1) := by decide +kernel
theorem dX4_bestLaw_24 : decode cX4_bestLaw 24 = .ok (.getfield 27, 3) := by decide +kernel
theorem dX4_bestLaw_27 : decode cX4_bestLaw 27 = .ok (.iload 5, 2) := by decide +kernel
theorem dX4_bestLaw_29 : decode cX4_bestLaw 29 = .ok (.iconst 3, 1) := by decide +kernel
theorem dX4_bestLaw_30 : decode cX4_bestLaw 30 = .ok (.idiv, 1) := by decide +kernel
theorem dX4_bestLaw_31 : decode cX4_bestLaw 31 = .ok (.putfield 128, 3) := by decide +kernel
theorem dX4_bestLaw_34 : decode cX4_bestLaw 34 = .ok (.aload_n 0, 1) := by decide +kernel
theorem dX4_bestLaw_35 : decode cX4_bestLaw 35 = .ok (.getfield 27, 3) := by decide +kernel
theorem dX4_bestLaw_38 : decode cX4_bestLaw 38 = .ok (.iload 5, 2) := by decide +kernel
theorem dX4_bestLaw_40 : decode cX4_bestLaw 40 = .ok (.iconst 3, 1) := by decide +kernel
theorem dX4_bestLaw_41 : decode cX4_bestLaw 41 = .ok (.irem, 1) := by decide +kernel
theorem dX4_bestLaw_42 : decode cX4_bestLaw 42 = .ok (.putfield 131, 3) := by decide +kernel
theorem dX4_bestLaw_45 : decode cX4_bestLaw 45 = .ok (.aload_n 0, 1) := by decide +kernel
theorem dX4_bestLaw_46 : decode cX4_bestLaw 46 = .ok (.getfield 31, 3) := by decide +kernel
theorem dX4_bestLaw_49 : decode cX4_bestLaw 49 = .ok (.invokevirtual 104, 3) := by decide +kernel
theorem dX4_bestLaw_52 : decode cX4_bestLaw 52 = .ok (.aload_n 0, 1) := by decide +kernel
theorem dX4_bestLaw_53 : decode cX4_bestLaw 53 = .ok (.getfield 31, 3) := by decide +kernel
theorem dX4_bestLaw_56 : decode cX4_bestLaw 56 = .ok (.getfield 114, 3) := by decide +kernel
theorem dX4_bestLaw_59 : decode cX4_bestLaw 59 = .ok (.iload_n 1, 1) := by decide +kernel
theorem dX4_bestLaw_60 : decode cX4_bestLaw 60 = .ok (.laload, 1) := by decide +kernel
theorem dX4_bestLaw_61 : decode cX4_bestLaw 61 = .ok (.lload_n 3, 1) := by decide +kernel
theorem dX4_bestLaw_62 : decode cX4_bestLaw 62 = .ok (.lcmp, 1) := by decide +kernel
theorem dX4_bestLaw_63 : decode cX4_bestLaw 63 = .ok (.ifCond .ge 16, 3) := by decide +kernel
theorem dX4_bestLaw_66 : decode cX4_bestLaw 66 = .ok (.aload_n 0, 1) := by decide +kernel
theorem dX4_bestLaw_67 : decode cX4_bestLaw 67 = .ok (.getfield 31, 3) := by decide +kernel
theorem dX4_bestLaw_70 : decode cX4_bestLaw 70 = .ok (.getfield 114, 3) := by decide +kernel
theorem dX4_bestLaw_73 : decode cX4_bestLaw 73 = .ok (.iload_n 1, 1) := by decide +kernel
theorem dX4_bestLaw_74 : decode cX4_bestLaw 74 = .ok (.laload, 1) := by decide +kernel
theorem dX4_bestLaw_75 : decode cX4_bestLaw 75 = .ok (.lstore_n 3, 1) := by decide +kernel
theorem dX4_bestLaw_76 : decode cX4_bestLaw 76 = .ok (.iload 5, 2) := by decide +kernel
theorem dX4_bestLaw_78 : decode cX4_bestLaw 78 = .ok (.istore_n 2, 1) := by decide +kernel
theorem dX4_bestLaw_79 : decode cX4_bestLaw 79 = .ok (.iinc 5 1, 3) := by decide +kernel
theorem dX4_bestLaw_82 : decode cX4_bestLaw 82 = .ok (.goto (-66), 3) := by decide +kernel
theorem dX4_bestLaw_85 : decode cX4_bestLaw 85 = .ok (.iload_n 2, 1) := by decide +kernel
theorem dX4_bestLaw_86 : decode cX4_bestLaw 86 = .ok (.ireturn, 1) := by decide +kernel
theorem dX4_leastFunnyToLeave_0 : decode cX4_leastFunnyToLeave 0 = .ok (.aload_n 0, 1) := by decide +kernel
theorem dX4_leastFunnyToLeave_1 : decode cX4_leastFunnyToLeave 1 = .ok (.getfield 27, 3) := by decide +kernel
theorem dX4_leastFunnyToLeave_4 : decode cX4_leastFunnyToLeave 4 = .ok (.invokevirtual 35, 3) := by decide +kernel
theorem dX4_leastFunnyToLeave_7 : decode cX4_leastFunnyToLeave 7 = .ok (.aload_n 0, 1) := by decide +kernel
theorem dX4_leastFunnyToLeave_8 : decode cX4_leastFunnyToLeave 8 = .ok (.getfield 27, 3) := by decide +kernel
theorem dX4_leastFunnyToLeave_11 : decode cX4_leastFunnyToLeave 11 = .ok (.getfield 65, 3) := by decide +kernel
theorem dX4_leastFunnyToLeave_14 : decode cX4_leastFunnyToLeave 14 = .ok (.iconst 1, 1) := by decide +kernel
theorem dX4_leastFunnyToLeave_15 : decode cX4_leastFunnyToLeave 15 = .ok (.isub, 1) := by decide +kernel
theorem dX4_leastFunnyToLeave_16 : decode cX4_leastFunnyToLeave 16 = .ok (.istore_n 2, 1) := by decide +kernel
theorem dX4_leastFunnyToLeave_17 : decode cX4_leastFunnyToLeave 17 = .ok (.iload_n 2, 1) := by decide +kernel
theorem dX4_leastFunnyToLeave_18 : decode cX4_leastFunnyToLeave 18 = .ok (.ifCond .ge 6, 3) := by decide +kernel
theorem dX4_leastFunnyToLeave_21 : decode cX4_leastFunnyToLeave 21 = .ok (.bipush (-3), 2) := by decide +kernel
theorem dX4_leastFunnyToLeave_23 : decode cX4_leastFunnyToLeave 23 = .ok (.ireturn, 1) := by decide +kernel
theorem dX4_leastFunnyToLeave_24 : decode cX4_leastFunnyToLeave 24 = .ok (.iconst 0, 1) := by decide +kernel
theorem dX4_leastFunnyToLeave_25 : decode cX4_leastFunnyToLeave 25 = .ok (.istore_n 3, 1) := by decide +kernel
theorem dX4_leastFunnyToLeave_26 : decode cX4_leastFunnyToLeave 26 = .ok (.iload_n 3, 1) := by decide +kernel
theorem dX4_leastFunnyToLeave_27 : decode cX4_leastFunnyToLeave 27 = .ok (.bipush 9, 2) := by decide +kernel
theorem dX4_leastFunnyToLeave_29 : decode cX4_leastFunnyToLeave 29 = .ok (.if_icmp .gt 79, 3) := by decide +kernel
theorem dX4_leastFunnyToLeave_32 : decode cX4_leastFunnyToLeave 32 = .ok (.aload_n 0, 1) := by decide +kernel
theorem dX4_leastFunnyToLeave_33 : decode cX4_leastFunnyToLeave 33 = .ok (.getfield 27, 3) := by decide +kernel
theorem dX4_leastFunnyToLeave_36 : decode cX4_leastFunnyToLeave 36 = .ok (.getfield 107, 3) := by decide +kernel
theorem dX4_leastFunnyToLeave_39 : decode cX4_leastFunnyToLeave 39 = .ok (.iload_n 2, 1) := by decide +kernel
theorem dX4_leastFunnyToLeave_40 : decode cX4_leastFunnyToLeave 40 = .ok (.iload_n 3, 1) := by decide +kernel
theorem dX4_leastFunnyToLeave_41 : decode cX4_leastFunnyToLeave 41 = .ok (.iastore, 1) := by decide +kernel
theorem dX4_leastFunnyToLeave_42 : decode cX4_leastFunnyToLeave 42 = .ok (.aload_n 0, 1) := by decide +kernel
theorem dX4_leastFunnyToLeave_43 : decode cX4_leastFunnyToLeave 43 = .ok (.getfield 27, 3) := by decide +kernel
theorem dX4_leastFunnyToLeave_46 : decode cX4_leastFunnyToLeave 46 = .ok (.getfield 47, 3) := by decide +kernel
theorem dX4_leastFunnyToLeave_49 : decode cX4_leastFunnyToLeave 49 = .ok (.iload_n 1, 1) := by decide +kernel
theorem dX4_leastFunnyToLeave_50 : decode cX4_leastFunnyToLeave 50 = .ok (.iload_n 2, 1) := by decide +kernel
theorem dX4_leastFunnyToLeave_51 : decode cX4_leastFunnyToLeave 51 = .ok (.iastore, 1) := by decide +kernel
theorem dX4_leastFunnyToLeave_52 : decode cX4_leastFunnyToLeave 52 = .ok (.aload_n 0, 1) := by decide +kernel
theorem dX4_leastFunnyToLeave_53 : decode cX4_leastFunnyToLeave 53 = .ok (.getfield 31, 3) := by decide +kernel
theorem dX4_leastFunnyToLeave_56 : decode cX4_leastFunnyToLeave 56 = .ok (.invokevirtual 104, 3) := by decide +kernel
theorem dX4_leastFunnyToLeave_59 : decode cX4_leastFunnyToLeave 59 = .ok (.aload_n 0, 1) := by decide +kernel
theorem dX4_leastFunnyToLeave_60 : decode cX4_leastFunnyToLeave 60 = .ok (.getfield 31, 3) := by decide +kernel
theorem dX4_leastFunnyToLeave_63 : decode cX4_leastFunnyToLeave 63 = .ok (.iload_n 1, 1) := by decide +kernel
theorem dX4_leastFunnyToLeave_64 : decode cX4_leastFunnyToLeave 64 = .ok (.invokevirtual 78, 3) := by decide +kernel
theorem dX4_leastFunnyToLeave_67 : decode cX4_leastFunnyToLeave 67 = .ok (.lstore 4, 2) := by decide +kernel
theorem dX4_leastFunnyToLeave_69 : decode cX4_leastFunnyToLeave 69 = .ok (.aload_n 0, 1) := by decide +kernel
theorem dX4_leastFunnyToLeave_70 : decode cX4_leastFunnyToLeave 70 = .ok (.getfield 27, 3) := by decide +kernel
theorem dX4_leastFunnyToLeave_73 : decode cX4_leastFunnyToLeave 73 = .ok (.getfield 47, 3) := by decide +kernel
theorem dX4_leastFunnyToLeave_76 : decode cX4_leastFunnyToLeave 76 = .ok (.iload_n 1, 1) := by decide +kernel
theorem dX4_leastFunnyToLeave_77 : decode cX4_leastFunnyToLeave 77 = .ok (.iconst 4, 1) := by decide +kernel
theorem dX4_leastFunnyToLeave_78 : decode cX4_leastFunnyToLeave 78 = .ok (.iastore, 1) := by decide +kernel
theorem dX4_leastFunnyToLeave_79 : decode cX4_leastFunnyToLeave 79 = .ok (.aload_n 0, 1) := by decide +kernel
theorem dX4_leastFunnyToLeave_80 : decode cX4_leastFunnyToLeave 80 = .ok (.getfield 31, 3) := by decide +kernel
theorem dX4_leastFunnyToLeave_83 : decode cX4_leastFunnyToLeave 83 = .ok (.invokevirtual 104, 3) := by decide +kernel
theorem dX4_leastFunnyToLeave_86 : decode cX4_leastFunnyToLeave 86 = .ok (.lload 4, 2) := by decide +kernel
theorem dX4_leastFunnyToLeave_88 : decode cX4_leastFunnyToLeave 88 = .ok (.aload_n 0, 1) := by decide +kernel
theorem dX4_leastFunnyToLeave_89 : decode cX4_leastFunnyToLeave 89 = .ok (.getfield 31, 3) := by decide +kernel
theorem dX4_leastFunnyToLeave_92 : decode cX4_leastFunnyToLeave 92 = .ok (.iload_n 1, 1) := by decide +kernel
theorem dX4_leastFunnyToLeave_93 : decode cX4_leastFunnyToLeave 93 = .ok (.invokevirtual 78, 3) := by decide +kernel
theorem dX4_leastFunnyToLeave_96 : decode cX4_leastFunnyToLeave 96 = .ok (.lcmp, 1) := by decide +kernel
theorem dX4_leastFunnyToLeave_97 : decode cX4_leastFunnyToLeave 97 = .ok (.ifCond .ge 5, 3) := by decide +kernel
theorem dX4_leastFunnyToLeave_100 : decode cX4_leastFunnyToLeave 100 = .ok (.iload_n 3, 1) := by decide +kernel
theorem dX4_leastFunnyToLeave_101 : decode cX4_leastFunnyToLeave 101 = .ok (.ireturn, 1) := by decide +kernel
theorem dX4_leastFunnyToLeave_102 : decode cX4_leastFunnyToLeave 102 = .ok (.iinc 3 1, 3) := by decide +kernel
theorem dX4_leastFunnyToLeave_105 : decode cX4_leastFunnyToLeave 105 = .ok (.goto (-79), 3) := by decide +kernel
theorem dX4_leastFunnyToLeave_108 : decode cX4_leastFunnyToLeave 108 = .ok (.iconst (-1), 1) := by decide +kernel
theorem dX4_leastFunnyToLeave_109 : decode cX4_leastFunnyToLeave 109 = .ok (.ireturn, 1) := by decide +kernel
theorem dX5_init_0 : decode cX5_init 0 = .ok (.aload_n 0, 1) := by decide +kernel
theorem dX5_init_1 : decode cX5_init 1 = .ok (.invokespecial 3, 3) := by decide +kernel
theorem dX5_init_4 : decode cX5_init 4 = .ok (.aload_n 0, 1) := by decide +kernel
theorem dX5_init_5 : decode cX5_init 5 = .ok (.bipush 60, 2) := by decide +kernel
theorem dX5_init_7 : decode cX5_init 7 = .ok (.newarray .int, 2) := by decide +kernel
theorem dX5_init_9 : decode cX5_init 9 = .ok (.putfield 9, 3) := by decide +kernel
theorem dX5_init_12 : decode cX5_init 12 = .ok (.aload_n 0, 1) := by decide +kernel
theorem dX5_init_13 : decode cX5_init 13 = .ok (.bipush 60, 2) := by decide +kernel
theorem dX5_init_15 : decode cX5_init 15 = .ok (.newarray .int, 2) := by decide +kernel
theorem dX5_init_17 : decode cX5_init 17 = .ok (.putfield 15, 3) := by decide +kernel
theorem dX5_init_20 : decode cX5_init 20 = .ok (.aload_n 0, 1) := by decide +kernel
theorem dX5_init_21 : decode cX5_init 21 = .ok (.bipush 60, 2) := by decide +kernel
theorem dX5_init_23 : decode cX5_init 23 = .ok (.newarray .int, 2) := by decide +kernel
theorem dX5_init_25 : decode cX5_init 25 = .ok (.putfield 18, 3) := by decide +kernel
theorem dX5_init_28 : decode cX5_init 28 = .ok (.aload_n 0, 1) := by decide +kernel
theorem dX5_init_29 : decode cX5_init 29 = .ok (.bipush 60, 2) := by decide +kernel
theorem dX5_init_31 : decode cX5_init 31 = .ok (.newarray .int, 2) := by decide +kernel
theorem dX5_init_33 : decode cX5_init 33 = .ok (.putfield 21, 3) := by decide +kernel
theorem dX5_init_36 : decode cX5_init 36 = .ok (.aload_n 0, 1) := by decide +kernel
theorem dX5_init_37 : decode cX5_init 37 = .ok (.bipush 60, 2) := by decide +kernel
theorem dX5_init_39 : decode cX5_init 39 = .ok (.newarray .int, 2) := by decide +kernel
theorem dX5_init_41 : decode cX5_init 41 = .ok (.putfield 24, 3) := by decide +kernel
theorem dX5_init_44 : decode cX5_init 44 = .ok (.return_, 1) := by decide +kernel
theorem dX5_add_0 : decode cX5_add 0 = .ok (.aload_n 0, 1) := by decide +kernel
theorem dX5_add_1 : decode cX5_add 1 = .ok (.getfield 27, 3) := by decide +kernel
theorem dX5_add_4 : decode cX5_add 4 = .ok (.bipush 60, 2) := by decide +kernel
theorem dX5_add_6 : decode cX5_add 6 = .ok (.if_icmp .lt 5, 3) := by decide +kernel
theorem dX5_add_9 : decode cX5_add 9 = .ok (.iconst 0, 1) := by decide +kernel
theorem dX5_add_10 : decode cX5_add 10 = .ok (.ireturn, 1) := by decide +kernel
theorem dX5_add_11 : decode cX5_add 11 = .ok (.aload_n 0, 1) := by decide +kernel
theorem dX5_add_12 : decode cX5_add 12 = .ok (.getfield 9, 3) := by decide +kernel
theorem dX5_add_15 : decode cX5_add 15 = .ok (.aload_n 0, 1) := by decide +kernel
theorem dX5_add_16 : decode cX5_add 16 = .ok (.getfield 27, 3) := by decide +kernel
theorem dX5_add_19 : decode cX5_add 19 = .ok (.iload_n 1, 1) := by decide +kernel
theorem dX5_add_20 : decode cX5_add 20 = .ok (.iastore, 1) := by decide +kernel
theorem dX5_add_21 : decode cX5_add 21 = .ok (.aload_n 0, 1) := by decide +kernel
theorem dX5_add_22 : decode cX5_add 22 = .ok (.getfield 15, 3) := by decide +kernel
theorem dX5_add_25 : decode cX5_add 25 = .ok (.aload_n 0, 1) := by decide +kernel
theorem dX5_add_26 : decode cX5_add 26 = .ok (.getfield 27, 3) := by decide +kernel
theorem dX5_add_29 : decode cX5_add 29 = .ok (.iload_n 2, 1) := by decide +kernel
theorem dX5_add_30 : decode cX5_add 30 = .ok (.iastore, 1) := by decide +kernel
theorem dX5_add_31 : decode cX5_add 31 = .ok (.aload_n 0, 1) := by decide +kernel
theorem dX5_add_32 : decode cX5_add 32 = .ok (.getfield 18, 3) := by decide +kernel
theorem dX5_add_35 : decode cX5_add 35 = .ok (.aload_n 0, 1) := by decide +kernel
theorem dX5_add_36 : decode cX5_add 36 = .ok (.getfield 27, 3) := by decide +kernel
theorem dX5_add_39 : decode cX5_add 39 = .ok (.iload_n 3, 1) := by decide +kernel
theorem dX5_add_40 : decode cX5_add 40 = .ok (.iastore, 1) := by decide +kernel
theorem dX5_add_41 : decode cX5_add 41 = .ok (.aload_n 0, 1) := by decide +kernel
theorem dX5_add_42 : decode cX5_add 42 = .ok (.getfield 21, 3) := by decide +kernel
theorem dX5_add_45 : decode cX5_add 45 = .ok (.aload_n 0, 1) := by decide +kernel
theorem dX5_add_46 : decode cX5_add 46 = .ok (.getfield 27, 3) := by decide +kernel
theorem dX5_add_49 : decode cX5_add 49 = .ok (.iload 4, 2) := by decide +kernel
theorem dX5_add_51 : decode cX5_add 51 = .ok (.iastore, 1) := by decide +kernel
theorem dX5_add_52 : decode cX5_add 52 = .ok (.aload_n 0, 1) := by decide +kernel
theorem dX5_add_53 : decode cX5_add 53 = .ok (.getfield 24, 3) := by decide +kernel
theorem dX5_add_56 : decode cX5_add 56 = .ok (.aload_n 0, 1) := by decide +kernel
theorem dX5_add_57 : decode cX5_add 57 = .ok (.getfield 27, 3) := by decide +kernel
theorem dX5_add_60 : decode cX5_add 60 = .ok (.iload 5, 2) := by decide +kernel
theorem dX5_add_62 : decode cX5_add 62 = .ok (.iastore, 1) := by decide +kernel
theorem dX5_add_63 : decode cX5_add 63 = .ok (.aload_n 0, 1) := by decide +kernel
theorem dX5_add_64 : decode cX5_add 64 = .ok (.dup, 1) := by decide +kernel
theorem dX5_add_65 : decode cX5_add 65 = .ok (.getfield 27, 3) := by decide +kernel
theorem dX5_add_68 : decode cX5_add 68 = .ok (.iconst 1, 1) := by decide +kernel
theorem dX5_add_69 : decode cX5_add 69 = .ok (.iadd, 1) := by decide +kernel
theorem dX5_add_70 : decode cX5_add 70 = .ok (.putfield 27, 3) := by decide +kernel
theorem dX5_add_73 : decode cX5_add 73 = .ok (.iconst 1, 1) := by decide +kernel
theorem dX5_add_74 : decode cX5_add 74 = .ok (.ireturn, 1) := by decide +kernel
theorem dX5_laughedTogether_0 : decode cX5_laughedTogether 0 = .ok (.iconst 0, 1) := by decide +kernel
theorem dX5_laughedTogether_1 : decode cX5_laughedTogether 1 = .ok (.istore_n 1, 1) := by decide +kernel
theorem dX5_laughedTogether_2 : decode cX5_laughedTogether 2 = .ok (.iconst 0, 1) := by decide +kernel
theorem dX5_laughedTogether_3 : decode cX5_laughedTogether 3 = .ok (.istore_n 2, 1) := by decide +kernel
theorem dX5_laughedTogether_4 : decode cX5_laughedTogether 4 = .ok (.iload_n 2, 1) := by decide +kernel
theorem dX5_laughedTogether_5 : decode cX5_laughedTogether 5 = .ok (.aload_n 0, 1) := by decide +kernel
theorem dX5_laughedTogether_6 : decode cX5_laughedTogether 6 = .ok (.getfield 27, 3) := by decide +kernel
theorem dX5_laughedTogether_9 : decode cX5_laughedTogether 9 = .ok (.if_icmp .ge 18, 3) := by decide +kernel
theorem dX5_laughedTogether_12 : decode cX5_laughedTogether 12 = .ok (.iload_n 1, 1) := by decide +kernel
theorem dX5_laughedTogether_13 : decode cX5_laughedTogether 13 = .ok (.aload_n 0, 1) := by decide +kernel
theorem dX5_laughedTogether_14 : decode cX5_laughedTogether 14 = .ok (.getfield 24, 3) := by decide +kernel
theorem dX5_laughedTogether_17 : decode cX5_laughedTogether 17 = .ok (.iload_n 2, 1) := by decide +kernel
theorem dX5_laughedTogether_18 : decode cX5_laughedTogether 18 = .ok (.iaload, 1) := by decide +kernel
theorem dX5_laughedTogether_19 : decode cX5_laughedTogether 19 = .ok (.iadd, 1) := by decide +kernel
theorem dX5_laughedTogether_20 : decode cX5_laughedTogether 20 = .ok (.istore_n 1, 1) := by decide +kernel
theorem dX5_laughedTogether_21 : decode cX5_laughedTogether 21 = .ok (.iinc 2 1, 3) := by decide +kernel
theorem dX5_laughedTogether_24 : decode cX5_laughedTogether 24 = .ok (.goto (-20), 3) := by decide +kernel
theorem dX5_laughedTogether_27 : decode cX5_laughedTogether 27 = .ok (.iload_n 1, 1) := by decide +kernel
theorem dX5_laughedTogether_28 : decode cX5_laughedTogether 28 = .ok (.ireturn, 1) := by decide +kernel
theorem dX5_offBy_0 : decode cX5_offBy 0 = .ok (.iconst 0, 1) := by decide +kernel
theorem dX5_offBy_1 : decode cX5_offBy 1 = .ok (.istore_n 3, 1) := by decide +kernel
theorem dX5_offBy_2 : decode cX5_offBy 2 = .ok (.iconst 0, 1) := by decide +kernel
theorem dX5_offBy_3 : decode cX5_offBy 3 = .ok (.istore 4, 2) := by decide +kernel
theorem dX5_offBy_5 : decode cX5_offBy 5 = .ok (.iload 4, 2) := by decide +kernel
theorem dX5_offBy_7 : decode cX5_offBy 7 = .ok (.aload_n 0, 1) := by decide +kernel
theorem dX5_offBy_8 : decode cX5_offBy 8 = .ok (.getfield 27, 3) := by decide +kernel
theorem dX5_offBy_11 : decode cX5_offBy 11 = .ok (.if_icmp .ge 78, 3) := by decide +kernel
theorem dX5_offBy_14 : decode cX5_offBy 14 = .ok (.aload_n 0, 1) := by decide +kernel
theorem dX5_offBy_15 : decode cX5_offBy 15 = .ok (.getfield 9, 3) := by decide +kernel
theorem dX5_offBy_18 : decode cX5_offBy 18 = .ok (.iload 4, 2) := by decide +kernel
theorem dX5_offBy_20 : decode cX5_offBy 20 = .ok (.iaload, 1) := by decide +kernel
theorem dX5_offBy_21 : decode cX5_offBy 21 = .ok (.iload_n 1, 1) := by decide +kernel
theorem dX5_offBy_22 : decode cX5_offBy 22 = .ok (.if_icmp .ne 61, 3) := by decide +kernel
theorem dX5_offBy_25 : decode cX5_offBy 25 = .ok (.iload_n 2, 1) := by decide +kernel
theorem dX5_offBy_26 : decode cX5_offBy 26 = .ok (.aload_n 0, 1) := by decide +kernel
theorem dX5_offBy_27 : decode cX5_offBy 27 = .ok (.getfield 15, 3) := by decide +kernel
theorem dX5_offBy_30 : decode cX5_offBy 30 = .ok (.iload 4, 2) := by decide +kernel
theorem dX5_offBy_32 : decode cX5_offBy 32 = .ok (.iaload, 1) := by decide +kernel
theorem dX5_offBy_33 : decode cX5_offBy 33 = .ok (.aload_n 0, 1) := by decide +kernel
theorem dX5_offBy_34 : decode cX5_offBy 34 = .ok (.getfield 18, 3) := by decide +kernel
theorem dX5_offBy_37 : decode cX5_offBy 37 = .ok (.iload 4, 2) := by decide +kernel
theorem dX5_offBy_39 : decode cX5_offBy 39 = .ok (.iaload, 1) := by decide +kernel
theorem dX5_offBy_40 : decode cX5_offBy 40 = .ok (.aload_n 0, 1) := by decide +kernel
theorem dX5_offBy_41 : decode cX5_offBy 41 = .ok (.getfield 21, 3) := by decide +kernel
theorem dX5_offBy_44 : decode cX5_offBy 44 = .ok (.iload 4, 2) := by decide +kernel
theorem dX5_offBy_46 : decode cX5_offBy 46 = .ok (.iaload, 1) := by decide +kernel
theorem dX5_offBy_47 : decode cX5_offBy 47 = .ok (.iconst 1, 1) := by decide +kernel
theorem dX5_offBy_48 : decode cX5_offBy 48 = .ok (.if_icmp .ne 7, 3) := by decide +kernel
theorem dX5_offBy_51 : decode cX5_offBy 51 = .ok (.iconst 1, 1) := by decide +kernel
theorem dX5_offBy_52 : decode cX5_offBy 52 = .ok (.goto 4, 3) := by decide +kernel
theorem dX5_offBy_55 : decode cX5_offBy 55 = .ok (.iconst 0, 1) := by decide +kernel
theorem dX5_offBy_56 : decode cX5_offBy 56 = .ok (.invokestatic 31, 3) := by decide +kernel
theorem dX5_offBy_59 : decode cX5_offBy 59 = .ok (.istore 5, 2) := by decide +kernel
theorem dX5_offBy_61 : decode cX5_offBy 61 = .ok (.iconst 4, 1) := by decide +kernel
theorem dX5_offBy_62 : decode cX5_offBy 62 = .ok (.aload_n 0, 1) := by decide +kernel
theorem dX5_offBy_63 : decode cX5_offBy 63 = .ok (.getfield 24, 3) := by decide +kernel
theorem dX5_offBy_66 : decode cX5_offBy 66 = .ok (.iload 4, 2) := by decide +kernel
theorem dX5_offBy_68 : decode cX5_offBy 68 = .ok (.iaload, 1) := by decide +kernel
theorem dX5_offBy_69 : decode cX5_offBy 69 = .ok (.imul, 1) := by decide +kernel
theorem dX5_offBy_70 : decode cX5_offBy 70 = .ok (.iload 5, 2) := by decide +kernel
theorem dX5_offBy_72 : decode cX5_offBy 72 = .ok (.isub, 1) := by decide +kernel
theorem dX5_offBy_73 : decode cX5_offBy 73 = .ok (.istore 6, 2) := by decide +kernel
theorem dX5_offBy_75 : decode cX5_offBy 75 = .ok (.iload_n 3, 1) := by decide +kernel
theorem dX5_offBy_76 : decode cX5_offBy 76 = .ok (.iload 6, 2) := by decide +kernel
theorem dX5_offBy_78 : decode cX5_offBy 78 = .ok (.iload 6, 2) := by decide +kernel
theorem dX5_offBy_80 : decode cX5_offBy 80 = .ok (.imul, 1) := by decide +kernel
theorem dX5_offBy_81 : decode cX5_offBy 81 = .ok (.iadd, 1) := by decide +kernel
theorem dX5_offBy_82 : decode cX5_offBy 82 = .ok (.istore_n 3, 1) := by decide +kernel
theorem dX5_offBy_83 : decode cX5_offBy 83 = .ok (.iinc 4 1, 3) := by decide +kernel
theorem dX5_offBy_86 : decode cX5_offBy 86 = .ok (.goto (-81), 3) := by decide +kernel
theorem dX5_offBy_89 : decode cX5_offBy 89 = .ok (.iload_n 3, 1) := by decide +kernel
theorem dX5_offBy_90 : decode cX5_offBy 90 = .ok (.ireturn, 1) := by decide +kernel
theorem dX5_likeliest_0 : decode cX5_likeliest 0 = .ok (.aload_n 0, 1) := by decide +kernel
theorem dX5_likeliest_1 : decode cX5_likeliest 1 = .ok (.iload_n 1, 1) := by decide +kernel
theorem dX5_likeliest_2 : decode cX5_likeliest 2 = .ok (.invokevirtual 35, 3) := by decide +kernel
theorem dX5_likeliest_5 : decode cX5_likeliest 5 = .ok (.ifCond .ne 6, 3) := by decide +kernel
theorem dX5_likeliest_8 : decode cX5_likeliest 8 = .ok (.bipush (-3), 2) := by decide +kernel
theorem dX5_likeliest_10 : decode cX5_likeliest 10 = .ok (.ireturn, 1) := by decide +kernel
theorem dX5_likeliest_11 : decode cX5_likeliest 11 = .ok (.iconst 0, 1) := by decide +kernel
theorem dX5_likeliest_12 : decode cX5_likeliest 12 = .ok (.istore_n 2, 1) := by decide +kernel
theorem dX5_likeliest_13 : decode cX5_likeliest 13 = .ok (.ldc 39, 2) := by decide +kernel
theorem dX5_likeliest_15 : decode cX5_likeliest 15 = .ok (.istore_n 3, 1) := by decide +kernel
theorem dX5_likeliest_16 : decode cX5_likeliest 16 = .ok (.iconst 0, 1) := by decide +kernel
theorem dX5_likeliest_17 : decode cX5_likeliest 17 = .ok (.istore 4, 2) := by decide +kernel
theorem dX5_likeliest_19 : decode cX5_likeliest 19 = .ok (.iload 4, 2) := by decide +kernel
theorem dX5_likeliest_21 : decode cX5_likeliest 21 = .ok (.bipush 9, 2) := by decide +kernel
theorem dX5_likeliest_23 : decode cX5_likeliest 23 = .ok (.if_icmp .gt 30, 3) := by decide +kernel
theorem dX5_likeliest_26 : decode cX5_likeliest 26 = .ok (.aload_n 0, 1) := by decide +kernel
theorem dX5_likeliest_27 : decode cX5_likeliest 27 = .ok (.iload_n 1, 1) := by decide +kernel
theorem dX5_likeliest_28 : decode cX5_likeliest 28 = .ok (.iload 4, 2) := by decide +kernel
theorem dX5_likeliest_30 : decode cX5_likeliest 30 = .ok (.invokevirtual 40, 3) := by decide +kernel
theorem dX5_likeliest_33 : decode cX5_likeliest 33 = .ok (.istore 5, 2) := by decide +kernel
theorem dX5_likeliest_35 : decode cX5_likeliest 35 = .ok (.iload 5, 2) := by decide +kernel
theorem dX5_likeliest_37 : decode cX5_likeliest 37 = .ok (.iload_n 3, 1) := by decide +kernel
theorem dX5_likeliest_38 : decode cX5_likeliest 38 = .ok (.if_icmp .ge 9, 3) := by decide +kernel
theorem dX5_likeliest_41 : decode cX5_likeliest 41 = .ok (.iload 5, 2) := by decide +kernel
theorem dX5_likeliest_43 : decode cX5_likeliest 43 = .ok (.istore_n 3, 1) := by decide +kernel
theorem dX5_likeliest_44 : decode cX5_likeliest 44 = .ok (.iload 4, 2) := by decide +kernel
theorem dX5_likeliest_46 : decode cX5_likeliest 46 = .ok (.istore_n 2, 1) := by decide +kernel
theorem dX5_likeliest_47 : decode cX5_likeliest 47 = .ok (.iinc 4 1, 3) := by decide +kernel
theorem dX5_likeliest_50 : decode cX5_likeliest 50 = .ok (.goto (-31), 3) := by decide +kernel
theorem dX5_likeliest_53 : decode cX5_likeliest 53 = .ok (.iload_n 2, 1) := by decide +kernel
theorem dX5_likeliest_54 : decode cX5_likeliest 54 = .ok (.ireturn, 1) := by decide +kernel
theorem dX5_howMany_0 : decode cX5_howMany 0 = .ok (.iconst 0, 1) := by decide +kernel
theorem dX5_howMany_1 : decode cX5_howMany 1 = .ok (.istore 4, 2) := by decide +kernel
theorem dX5_howMany_3 : decode cX5_howMany 3 = .ok (.iconst 0, 1) := by decide +kernel
theorem dX5_howMany_4 : decode cX5_howMany 4 = .ok (.istore 5, 2) := by decide +kernel
theorem dX5_howMany_6 : decode cX5_howMany 6 = .ok (.iload 5, 2) := by decide +kernel
theorem dX5_howMany_8 : decode cX5_howMany 8 = .ok (.aload_n 0, 1) := by decide +kernel
theorem dX5_howMany_9 : decode cX5_howMany 9 = .ok (.getfield 27, 3) := by decide +kernel
theorem dX5_howMany_12 : decode cX5_howMany 12 = .ok (.if_icmp .ge 48, 3) := by decide +kernel
theorem dX5_howMany_15 : decode cX5_howMany 15 = .ok (.aload_n 0, 1) := by decide +kernel
theorem dX5_howMany_16 : decode cX5_howMany 16 = .ok (.getfield 9, 3) := by decide +kernel
theorem dX5_howMany_19 : decode cX5_howMany 19 = .ok (.iload 5, 2) := by decide +kernel
theorem dX5_howMany_21 : decode cX5_howMany 21 = .ok (.iaload, 1) := by decide +kernel
theorem dX5_howMany_22 : decode cX5_howMany 22 = .ok (.iload_n 1, 1) := by decide +kernel
theorem dX5_howMany_23 : decode cX5_howMany 23 = .ok (.if_icmp .ne 31, 3) := by decide +kernel
theorem dX5_howMany_26 : decode cX5_howMany 26 = .ok (.aload_n 0, 1) := by decide +kernel
theorem dX5_howMany_27 : decode cX5_howMany 27 = .ok (.getfield 15, 3) := by decide +kernel
theorem dX5_howMany_30 : decode cX5_howMany 30 = .ok (.iload 5, 2) := by decide +kernel
theorem dX5_howMany_32 : decode cX5_howMany 32 = .ok (.iaload, 1) := by decide +kernel
theorem dX5_howMany_33 : decode cX5_howMany 33 = .ok (.iload_n 2, 1) := by decide +kernel
theorem dX5_howMany_34 : decode cX5_howMany 34 = .ok (.if_icmp .ne 20, 3) := by decide +kernel
theorem dX5_howMany_37 : decode cX5_howMany 37 = .ok (.iload_n 3, 1) := by decide +kernel
theorem dX5_howMany_38 : decode cX5_howMany 38 = .ok (.ifCond .eq 13, 3) := by decide +kernel
theorem dX5_howMany_41 : decode cX5_howMany 41 = .ok (.aload_n 0, 1) := by decide +kernel
theorem dX5_howMany_42 : decode cX5_howMany 42 = .ok (.getfield 24, 3) := by decide +kernel
theorem dX5_howMany_45 : decode cX5_howMany 45 = .ok (.iload 5, 2) := by decide +kernel
theorem dX5_howMany_47 : decode cX5_howMany 47 = .ok (.iaload, 1) := by decide +kernel
theorem dX5_howMany_48 : decode cX5_howMany 48 = .ok (.ifCond .eq 6, 3) := by decide +kernel
theorem dX5_howMany_51 : decode cX5_howMany 51 = .ok (.iinc 4 1, 3) := by decide +kernel
theorem dX5_howMany_54 : decode cX5_howMany 54 = .ok (.iinc 5 1, 3) := by decide +kernel
theorem dX5_howMany_57 : decode cX5_howMany 57 = .ok (.goto (-51), 3) := by decide +kernel
theorem dX5_howMany_60 : decode cX5_howMany 60 = .ok (.iload 4, 2) := by decide +kernel
theorem dX5_howMany_62 : decode cX5_howMany 62 = .ok (.ireturn, 1) := by decide +kernel
theorem dX5_wasSeen_0 : decode cX5_wasSeen 0 = .ok (.iconst 0, 1) := by decide +kernel
theorem dX5_wasSeen_1 : decode cX5_wasSeen 1 = .ok (.istore_n 2, 1) := by decide +kernel
theorem dX5_wasSeen_2 : decode cX5_wasSeen 2 = .ok (.iload_n 2, 1) := by decide +kernel
theorem dX5_wasSeen_3 : decode cX5_wasSeen 3 = .ok (.aload_n 0, 1) := by decide +kernel
theorem dX5_wasSeen_4 : decode cX5_wasSeen 4 = .ok (.getfield 27, 3) := by decide +kernel
theorem dX5_wasSeen_7 : decode cX5_wasSeen 7 = .ok (.if_icmp .ge 21, 3) := by decide +kernel
theorem dX5_wasSeen_10 : decode cX5_wasSeen 10 = .ok (.aload_n 0, 1) := by decide +kernel
theorem dX5_wasSeen_11 : decode cX5_wasSeen 11 = .ok (.getfield 9, 3) := by decide +kernel
theorem dX5_wasSeen_14 : decode cX5_wasSeen 14 = .ok (.iload_n 2, 1) := by decide +kernel
theorem dX5_wasSeen_15 : decode cX5_wasSeen 15 = .ok (.iaload, 1) := by decide +kernel
theorem dX5_wasSeen_16 : decode cX5_wasSeen 16 = .ok (.iload_n 1, 1) := by decide +kernel
theorem dX5_wasSeen_17 : decode cX5_wasSeen 17 = .ok (.if_icmp .ne 5, 3) := by decide +kernel
theorem dX5_wasSeen_20 : decode cX5_wasSeen 20 = .ok (.iconst 1, 1) := by decide +kernel
theorem dX5_wasSeen_21 : decode cX5_wasSeen 21 = .ok (.ireturn, 1) := by decide +kernel
theorem dX5_wasSeen_22 : decode cX5_wasSeen 22 = .ok (.iinc 2 1, 3) := by decide +kernel
theorem dX5_wasSeen_25 : decode cX5_wasSeen 25 = .ok (.goto (-23), 3) := by decide +kernel
theorem dX5_wasSeen_28 : decode cX5_wasSeen 28 = .ok (.iconst 0, 1) := by decide +kernel
theorem dX5_wasSeen_29 : decode cX5_wasSeen 29 = .ok (.ireturn, 1) := by decide +kernel
theorem dX6_init_0 : decode cX6_init 0 = .ok (.aload_n 0, 1) := by decide +kernel
theorem dX6_init_1 : decode cX6_init 1 = .ok (.invokespecial 1, 3) := by decide +kernel
theorem dX6_init_4 : decode cX6_init 4 = .ok (.aload_n 0, 1) := by decide +kernel
theorem dX6_init_5 : decode cX6_init 5 = .ok (.lconst 1, 1) := by decide +kernel
theorem dX6_init_6 : decode cX6_init 6 = .ok (.putfield 7, 3) := by decide +kernel
theorem dX6_init_9 : decode cX6_init 9 = .ok (.return_, 1) := by decide +kernel
theorem dX6_put_0 : decode cX6_put 0 = .ok (.lload_n 1, 1) := by decide +kernel
theorem dX6_put_1 : decode cX6_put 1 = .ok (.invokestatic 13, 3) := by decide +kernel
theorem dX6_put_4 : decode cX6_put 4 = .ok (.lload_n 3, 1) := by decide +kernel
theorem dX6_put_5 : decode cX6_put 5 = .ok (.invokestatic 19, 3) := by decide +kernel
theorem dX6_put_8 : decode cX6_put 8 = .ok (.lstore 5, 2) := by decide +kernel
theorem dX6_put_10 : decode cX6_put 10 = .ok (.aload_n 0, 1) := by decide +kernel
theorem dX6_put_11 : decode cX6_put 11 = .ok (.lload 5, 2) := by decide +kernel
theorem dX6_put_13 : decode cX6_put 13 = .ok (.lconst 0, 1) := by decide +kernel
theorem dX6_put_14 : decode cX6_put 14 = .ok (.lcmp, 1) := by decide +kernel
theorem dX6_put_15 : decode cX6_put 15 = .ok (.ifCond .le 10, 3) := by decide +kernel
theorem dX6_put_18 : decode cX6_put 18 = .ok (.lload_n 1, 1) := by decide +kernel
theorem dX6_put_19 : decode cX6_put 19 = .ok (.lload 5, 2) := by decide +kernel
theorem dX6_put_21 : decode cX6_put 21 = .ok (.ldiv, 1) := by decide +kernel
theorem dX6_put_22 : decode cX6_put 22 = .ok (.goto 4, 3) := by decide +kernel
theorem dX6_put_25 : decode cX6_put 25 = .ok (.lconst 0, 1) := by decide +kernel
theorem dX6_put_26 : decode cX6_put 26 = .ok (.putfield 23, 3) := by decide +kernel
theorem dX6_put_29 : decode cX6_put 29 = .ok (.aload_n 0, 1) := by decide +kernel
theorem dX6_put_30 : decode cX6_put 30 = .ok (.lload 5, 2) := by decide +kernel
theorem dX6_put_32 : decode cX6_put 32 = .ok (.lconst 0, 1) := by decide +kernel
theorem dX6_put_33 : decode cX6_put 33 = .ok (.lcmp, 1) := by decide +kernel
theorem dX6_put_34 : decode cX6_put 34 = .ok (.ifCond .le 10, 3) := by decide +kernel
theorem dX6_put_37 : decode cX6_put 37 = .ok (.lload_n 3, 1) := by decide +kernel
theorem dX6_put_38 : decode cX6_put 38 = .ok (.lload 5, 2) := by decide +kernel
theorem dX6_put_40 : decode cX6_put 40 = .ok (.ldiv, 1) := by decide +kernel
theorem dX6_put_41 : decode cX6_put 41 = .ok (.goto 4, 3) := by decide +kernel
theorem dX6_put_44 : decode cX6_put 44 = .ok (.lconst 1, 1) := by decide +kernel
theorem dX6_put_45 : decode cX6_put 45 = .ok (.putfield 7, 3) := by decide +kernel
theorem dX6_put_48 : decode cX6_put 48 = .ok (.aload_n 0, 1) := by decide +kernel
theorem dX6_put_49 : decode cX6_put 49 = .ok (.areturn, 1) := by decide +kernel
theorem dX6_part_0 : decode cX6_part 0 = .ok (.iload_n 1, 1) := by decide +kernel
theorem dX6_part_1 : decode cX6_part 1 = .ok (.ifCond .ne 10, 3) := by decide +kernel
theorem dX6_part_4 : decode cX6_part 4 = .ok (.aload_n 0, 1) := by decide +kernel
theorem dX6_part_5 : decode cX6_part 5 = .ok (.getfield 23, 3) := by decide +kernel
theorem dX6_part_8 : decode cX6_part 8 = .ok (.goto 7, 3) := by decide +kernel
theorem dX6_part_11 : decode cX6_part 11 = .ok (.aload_n 0, 1) := by decide +kernel
theorem dX6_part_12 : decode cX6_part 12 = .ok (.getfield 7, 3) := by decide +kernel
theorem dX6_part_15 : decode cX6_part 15 = .ok (.lreturn, 1) := by decide +kernel
theorem dX6_mixedInto_0 : decode cX6_mixedInto 0 = .ok (.ldc2_w 26, 3) := by decide +kernel
theorem dX6_mixedInto_3 : decode cX6_mixedInto 3 = .ok (.ldc2_w 26, 3) := by decide +kernel
theorem dX6_mixedInto_6 : decode cX6_mixedInto 6 = .ok (.lload_n 1, 1) := by decide +kernel
theorem dX6_mixedInto_7 : decode cX6_mixedInto 7 = .ok (.lmul, 1) := by decide +kernel
theorem dX6_mixedInto_8 : decode cX6_mixedInto 8 = .ok (.aload_n 0, 1) := by decide +kernel
theorem dX6_mixedInto_9 : decode cX6_mixedInto 9 = .ok (.getfield 23, 3) := by decide +kernel
theorem dX6_mixedInto_12 : decode cX6_mixedInto 12 = .ok (.ladd, 1) := by decide +kernel
theorem dX6_mixedInto_13 : decode cX6_mixedInto 13 = .ok (.lmul, 1) := by decide +kernel
theorem dX6_mixedInto_14 : decode cX6_mixedInto 14 = .ok (.aload_n 0, 1) := by decide +kernel
theorem dX6_mixedInto_15 : decode cX6_mixedInto 15 = .ok (.getfield 7, 3) := by decide +kernel
theorem dX6_mixedInto_18 : decode cX6_mixedInto 18 = .ok (.ladd, 1) := by decide +kernel
theorem dX6_mixedInto_19 : decode cX6_mixedInto 19 = .ok (.lreturn, 1) := by decide +kernel
theorem dX6_commonDivisor_0 : decode cX6_commonDivisor 0 = .ok (.lload_n 0, 1) := by decide +kernel
theorem dX6_commonDivisor_1 : decode cX6_commonDivisor 1 = .ok (.lstore 4, 2) := by decide +kernel
theorem dX6_commonDivisor_3 : decode cX6_commonDivisor 3 = .ok (.lload_n 2, 1) := by decide +kernel
theorem dX6_commonDivisor_4 : decode cX6_commonDivisor 4 = .ok (.lstore 6, 2) := by decide +kernel
theorem dX6_commonDivisor_6 : decode cX6_commonDivisor 6 = .ok (.iconst 0, 1) := by decide +kernel
theorem dX6_commonDivisor_7 : decode cX6_commonDivisor 7 = .ok (.istore 8, 2) := by decide +kernel
theorem dX6_commonDivisor_9 : decode cX6_commonDivisor 9 = .ok (.iload 8, 2) := by decide +kernel
theorem dX6_commonDivisor_11 : decode cX6_commonDivisor 11 = .ok (.sipush 200, 3) := by decide +kernel
theorem dX6_commonDivisor_14 : decode cX6_commonDivisor 14 = .ok (.if_icmp .ge 31, 3) := by decide +kernel
theorem dX6_commonDivisor_17 : decode cX6_commonDivisor 17 = .ok (.lload 6, 2) := by decide +kernel
theorem dX6_commonDivisor_19 : decode cX6_commonDivisor 19 = .ok (.lconst 0, 1) := by decide +kernel
theorem dX6_commonDivisor_20 : decode cX6_commonDivisor 20 = .ok (.lcmp, 1) := by decide +kernel
theorem dX6_commonDivisor_21 : decode cX6_commonDivisor 21 = .ok (.ifCond .eq 24, 3) := by decide +kernel
theorem dX6_commonDivisor_24 : decode cX6_commonDivisor 24 = .ok (.lload 4, 2) := by decide +kernel
theorem dX6_commonDivisor_26 : decode cX6_commonDivisor 26 = .ok (.lload 6, 2) := by decide +kernel
theorem dX6_commonDivisor_28 : decode cX6_commonDivisor 28 = .ok (.lrem, 1) := by decide +kernel
theorem dX6_commonDivisor_29 : decode cX6_commonDivisor 29 = .ok (.lstore 9, 2) := by decide +kernel
theorem dX6_commonDivisor_31 : decode cX6_commonDivisor 31 = .ok (.lload 6, 2) := by decide +kernel
theorem dX6_commonDivisor_33 : decode cX6_commonDivisor 33 = .ok (.lstore 4, 2) := by decide +kernel
theorem dX6_commonDivisor_35 : decode cX6_commonDivisor 35 = .ok (.lload 9, 2) := by decide +kernel
theorem dX6_commonDivisor_37 : decode cX6_commonDivisor 37 = .ok (.lstore 6, 2) := by decide +kernel
theorem dX6_commonDivisor_39 : decode cX6_commonDivisor 39 = .ok (.iinc 8 1, 3) := by decide +kernel
theorem dX6_commonDivisor_42 : decode cX6_commonDivisor 42 = .ok (.goto (-33), 3) := by decide +kernel
theorem dX6_commonDivisor_45 : decode cX6_commonDivisor 45 = .ok (.lload 4, 2) := by decide +kernel
theorem dX6_commonDivisor_47 : decode cX6_commonDivisor 47 = .ok (.lreturn, 1) := by decide +kernel
theorem dX7_init_0 : decode cX7_init 0 = .ok (.aload_n 0, 1) := by decide +kernel
theorem dX7_init_1 : decode cX7_init 1 = .ok (.invokespecial 3, 3) := by decide +kernel
theorem dX7_init_4 : decode cX7_init 4 = .ok (.aload_n 0, 1) := by decide +kernel
theorem dX7_init_5 : decode cX7_init 5 = .ok (.iconst 4, 1) := by decide +kernel
theorem dX7_init_6 : decode cX7_init 6 = .ok (.newarray .int, 2) := by decide +kernel
theorem dX7_init_8 : decode cX7_init 8 = .ok (.dup, 1) := by decide +kernel
theorem dX7_init_9 : decode cX7_init 9 = .ok (.iconst 0, 1) := by decide +kernel
theorem dX7_init_10 : decode cX7_init 10 = .ok (.iconst (-1), 1) := by decide +kernel
theorem dX7_init_11 : decode cX7_init 11 = .ok (.iastore, 1) := by decide +kernel
theorem dX7_init_12 : decode cX7_init 12 = .ok (.dup, 1) := by decide +kernel
theorem dX7_init_13 : decode cX7_init 13 = .ok (.iconst 1, 1) := by decide +kernel
theorem dX7_init_14 : decode cX7_init 14 = .ok (.iconst (-1), 1) := by decide +kernel
theorem dX7_init_15 : decode cX7_init 15 = .ok (.iastore, 1) := by decide +kernel
theorem dX7_init_16 : decode cX7_init 16 = .ok (.dup, 1) := by decide +kernel
theorem dX7_init_17 : decode cX7_init 17 = .ok (.iconst 2, 1) := by decide +kernel
theorem dX7_init_18 : decode cX7_init 18 = .ok (.iconst (-1), 1) := by decide +kernel
theorem dX7_init_19 : decode cX7_init 19 = .ok (.iastore, 1) := by decide +kernel
theorem dX7_init_20 : decode cX7_init 20 = .ok (.dup, 1) := by decide +kernel
theorem dX7_init_21 : decode cX7_init 21 = .ok (.iconst 3, 1) := by decide +kernel
theorem dX7_init_22 : decode cX7_init 22 = .ok (.iconst (-1), 1) := by decide +kernel
theorem dX7_init_23 : decode cX7_init 23 = .ok (.iastore, 1) := by decide +kernel
theorem dX7_init_24 : decode cX7_init 24 = .ok (.putfield 11, 3) := by decide +kernel
theorem dX7_init_27 : decode cX7_init 27 = .ok (.aload_n 0, 1) := by decide +kernel
theorem dX7_init_28 : decode cX7_init 28 = .ok (.iconst 4, 1) := by decide +kernel
theorem dX7_init_29 : decode cX7_init 29 = .ok (.newarray .int, 2) := by decide +kernel
theorem dX7_init_31 : decode cX7_init 31 = .ok (.putfield 15, 3) := by decide +kernel
theorem dX7_init_34 : decode cX7_init 34 = .ok (.aload_n 0, 1) := by decide +kernel
theorem dX7_init_35 : decode cX7_init 35 = .ok (.sipush 240, 3) := by decide +kernel
theorem dX7_init_38 : decode cX7_init 38 = .ok (.newarray .int, 2) := by decide +kernel
theorem dX7_init_40 : decode cX7_init 40 = .ok (.putfield 18, 3) := by decide +kernel
theorem dX7_init_43 : decode cX7_init 43 = .ok (.return_, 1) := by decide +kernel
theorem dX7_find_0 : decode cX7_find 0 = .ok (.aload_n 0, 1) := by decide +kernel
theorem dX7_find_1 : decode cX7_find 1 = .ok (.iload_n 1, 1) := by decide +kernel
theorem dX7_find_2 : decode cX7_find 2 = .ok (.putfield 21, 3) := by decide +kernel
theorem dX7_find_5 : decode cX7_find 5 = .ok (.bipush (-10), 2) := by decide +kernel
theorem dX7_find_7 : decode cX7_find 7 = .ok (.iload_n 1, 1) := by decide +kernel
theorem dX7_find_8 : decode cX7_find 8 = .ok (.isub, 1) := by decide +kernel
theorem dX7_find_9 : decode cX7_find 9 = .ok (.ireturn, 1) := by decide +kernel
theorem dX7_isLost_0 : decode cX7_isLost 0 = .ok (.aload_n 0, 1) := by decide +kernel
theorem dX7_isLost_1 : decode cX7_isLost 1 = .ok (.getfield 11, 3) := by decide +kernel
theorem dX7_isLost_4 : decode cX7_isLost 4 = .ok (.iload_n 1, 1) := by decide +kernel
theorem dX7_isLost_5 : decode cX7_isLost 5 = .ok (.iaload, 1) := by decide +kernel
theorem dX7_isLost_6 : decode cX7_isLost 6 = .ok (.iconst (-1), 1) := by decide +kernel
theorem dX7_isLost_7 : decode cX7_isLost 7 = .ok (.if_icmp .ne 7, 3) := by decide +kernel
theorem dX7_isLost_10 : decode cX7_isLost 10 = .ok (.iconst 1, 1) := by decide +kernel
theorem dX7_isLost_11 : decode cX7_isLost 11 = .ok (.goto 4, 3) := by decide +kernel
theorem dX7_isLost_14 : decode cX7_isLost 14 = .ok (.iconst 0, 1) := by decide +kernel
theorem dX7_isLost_15 : decode cX7_isLost 15 = .ok (.ireturn, 1) := by decide +kernel
theorem dX7_renew_0 : decode cX7_renew 0 = .ok (.aload_n 0, 1) := by decide +kernel
theorem dX7_renew_1 : decode cX7_renew 1 = .ok (.getfield 15, 3) := by decide +kernel
theorem dX7_renew_4 : decode cX7_renew 4 = .ok (.iload_n 1, 1) := by decide +kernel
theorem dX7_renew_5 : decode cX7_renew 5 = .ok (.iload_n 2, 1) := by decide +kernel
theorem dX7_renew_6 : decode cX7_renew 6 = .ok (.iastore, 1) := by decide +kernel
theorem dX7_renew_7 : decode cX7_renew 7 = .ok (.aload_n 0, 1) := by decide +kernel
theorem dX7_renew_8 : decode cX7_renew 8 = .ok (.getfield 11, 3) := by decide +kernel
theorem dX7_renew_11 : decode cX7_renew 11 = .ok (.iload_n 1, 1) := by decide +kernel
theorem dX7_renew_12 : decode cX7_renew 12 = .ok (.iload_n 3, 1) := by decide +kernel
theorem dX7_renew_13 : decode cX7_renew 13 = .ok (.iastore, 1) := by decide +kernel
theorem dX7_renew_14 : decode cX7_renew 14 = .ok (.iconst 0, 1) := by decide +kernel
theorem dX7_renew_15 : decode cX7_renew 15 = .ok (.istore 4, 2) := by decide +kernel
theorem dX7_renew_17 : decode cX7_renew 17 = .ok (.iload 4, 2) := by decide +kernel
theorem dX7_renew_19 : decode cX7_renew 19 = .ok (.bipush 60, 2) := by decide +kernel
theorem dX7_renew_21 : decode cX7_renew 21 = .ok (.if_icmp .ge 22, 3) := by decide +kernel
theorem dX7_renew_24 : decode cX7_renew 24 = .ok (.aload_n 0, 1) := by decide +kernel
theorem dX7_renew_25 : decode cX7_renew 25 = .ok (.getfield 18, 3) := by decide +kernel
theorem dX7_renew_28 : decode cX7_renew 28 = .ok (.bipush 60, 2) := by decide +kernel
theorem dX7_renew_30 : decode cX7_renew 30 = .ok (.iload_n 1, 1) := by decide +kernel
theorem dX7_renew_31 : decode cX7_renew 31 = .ok (.imul, 1) := by decide +kernel
theorem dX7_renew_32 : decode cX7_renew 32 = .ok (.iload 4, 2) := by decide +kernel
theorem dX7_renew_34 : decode cX7_renew 34 = .ok (.iadd, 1) := by decide +kernel
theorem dX7_renew_35 : decode cX7_renew 35 = .ok (.iconst 0, 1) := by decide +kernel
theorem dX7_renew_36 : decode cX7_renew 36 = .ok (.iastore, 1) := by decide +kernel
theorem dX7_renew_37 : decode cX7_renew 37 = .ok (.iinc 4 1, 3) := by decide +kernel
theorem dX7_renew_40 : decode cX7_renew 40 = .ok (.goto (-23), 3) := by decide +kernel
theorem dX7_renew_43 : decode cX7_renew 43 = .ok (.return_, 1) := by decide +kernel
theorem dX7_drop_0 : decode cX7_drop 0 = .ok (.aload_n 0, 1) := by decide +kernel
theorem dX7_drop_1 : decode cX7_drop 1 = .ok (.getfield 11, 3) := by decide +kernel
theorem dX7_drop_4 : decode cX7_drop 4 = .ok (.iload_n 1, 1) := by decide +kernel
theorem dX7_drop_5 : decode cX7_drop 5 = .ok (.iaload, 1) := by decide +kernel
theorem dX7_drop_6 : decode cX7_drop 6 = .ok (.istore_n 2, 1) := by decide +kernel
theorem dX7_drop_7 : decode cX7_drop 7 = .ok (.aload_n 0, 1) := by decide +kernel
theorem dX7_drop_8 : decode cX7_drop 8 = .ok (.getfield 11, 3) := by decide +kernel
theorem dX7_drop_11 : decode cX7_drop 11 = .ok (.iload_n 1, 1) := by decide +kernel
theorem dX7_drop_12 : decode cX7_drop 12 = .ok (.iconst (-1), 1) := by decide +kernel
theorem dX7_drop_13 : decode cX7_drop 13 = .ok (.iastore, 1) := by decide +kernel
theorem dX7_drop_14 : decode cX7_drop 14 = .ok (.iload_n 2, 1) := by decide +kernel
theorem dX7_drop_15 : decode cX7_drop 15 = .ok (.ireturn, 1) := by decide +kernel
theorem dX7_lookUp_0 : decode cX7_lookUp 0 = .ok (.aload_n 0, 1) := by decide +kernel
theorem dX7_lookUp_1 : decode cX7_lookUp 1 = .ok (.iload_n 1, 1) := by decide +kernel
theorem dX7_lookUp_2 : decode cX7_lookUp 2 = .ok (.invokevirtual 25, 3) := by decide +kernel
theorem dX7_lookUp_5 : decode cX7_lookUp 5 = .ok (.ifCond .eq 5, 3) := by decide +kernel
theorem dX7_lookUp_8 : decode cX7_lookUp 8 = .ok (.iconst 1, 1) := by decide +kernel
theorem dX7_lookUp_9 : decode cX7_lookUp 9 = .ok (.ireturn, 1) := by decide +kernel
theorem dX7_lookUp_10 : decode cX7_lookUp 10 = .ok (.aload_n 0, 1) := by decide +kernel
theorem dX7_lookUp_11 : decode cX7_lookUp 11 = .ok (.getfield 15, 3) := by decide +kernel
theorem dX7_lookUp_14 : decode cX7_lookUp 14 = .ok (.iload_n 1, 1) := by decide +kernel
theorem dX7_lookUp_15 : decode cX7_lookUp 15 = .ok (.iaload, 1) := by decide +kernel
theorem dX7_lookUp_16 : decode cX7_lookUp 16 = .ok (.iload_n 2, 1) := by decide +kernel
theorem dX7_lookUp_17 : decode cX7_lookUp 17 = .ok (.if_icmp .eq 5, 3) := by decide +kernel
theorem dX7_lookUp_20 : decode cX7_lookUp 20 = .ok (.iconst 3, 1) := by decide +kernel
theorem dX7_lookUp_21 : decode cX7_lookUp 21 = .ok (.ireturn, 1) := by decide +kernel
theorem dX7_lookUp_22 : decode cX7_lookUp 22 = .ok (.iload_n 3, 1) := by decide +kernel
theorem dX7_lookUp_23 : decode cX7_lookUp 23 = .ok (.ifCond .lt 13, 3) := by decide +kernel
theorem dX7_lookUp_26 : decode cX7_lookUp 26 = .ok (.iload_n 3, 1) := by decide +kernel
theorem dX7_lookUp_27 : decode cX7_lookUp 27 = .ok (.aload_n 0, 1) := by decide +kernel
theorem dX7_lookUp_28 : decode cX7_lookUp 28 = .ok (.getfield 11, 3) := by decide +kernel
theorem dX7_lookUp_31 : decode cX7_lookUp 31 = .ok (.iload_n 1, 1) := by decide +kernel
theorem dX7_lookUp_32 : decode cX7_lookUp 32 = .ok (.iaload, 1) := by decide +kernel
theorem dX7_lookUp_33 : decode cX7_lookUp 33 = .ok (.if_icmp .lt 7, 3) := by decide +kernel
theorem dX7_lookUp_36 : decode cX7_lookUp 36 = .ok (.iconst 2, 1) := by decide +kernel
theorem dX7_lookUp_37 : decode cX7_lookUp 37 = .ok (.goto 4, 3) := by decide +kernel
theorem dX7_lookUp_40 : decode cX7_lookUp 40 = .ok (.iconst 0, 1) := by decide +kernel
theorem dX7_lookUp_41 : decode cX7_lookUp 41 = .ok (.ireturn, 1) := by decide +kernel
theorem dX7_hasItems_0 : decode cX7_hasItems 0 = .ok (.iload_n 2, 1) := by decide +kernel
theorem dX7_hasItems_1 : decode cX7_hasItems 1 = .ok (.ifCond .lt 33, 3) := by decide +kernel
theorem dX7_hasItems_4 : decode cX7_hasItems 4 = .ok (.iload_n 3, 1) := by decide +kernel
theorem dX7_hasItems_5 : decode cX7_hasItems 5 = .ok (.ifCond .lt 29, 3) := by decide +kernel
theorem dX7_hasItems_8 : decode cX7_hasItems 8 = .ok (.iload_n 2, 1) := by decide +kernel
theorem dX7_hasItems_9 : decode cX7_hasItems 9 = .ok (.aload_n 0, 1) := by decide +kernel
theorem dX7_hasItems_10 : decode cX7_hasItems 10 = .ok (.getfield 11, 3) := by decide +kernel
theorem dX7_hasItems_13 : decode cX7_hasItems 13 = .ok (.iload_n 1, 1) := by decide +kernel
theorem dX7_hasItems_14 : decode cX7_hasItems 14 = .ok (.iaload, 1) := by decide +kernel
theorem dX7_hasItems_15 : decode cX7_hasItems 15 = .ok (.if_icmp .gt 19, 3) := by decide +kernel
theorem dX7_hasItems_18 : decode cX7_hasItems 18 = .ok (.iload_n 3, 1) := by decide +kernel
theorem dX7_hasItems_19 : decode cX7_hasItems 19 = .ok (.aload_n 0, 1) := by decide +kernel
theorem dX7_hasItems_20 : decode cX7_hasItems 20 = .ok (.getfield 11, 3) := by decide +kernel
theorem dX7_hasItems_23 : decode cX7_hasItems 23 = .ok (.iload_n 1, 1) := by decide +kernel
theorem dX7_hasItems_24 : decode cX7_hasItems 24 = .ok (.iaload, 1) := by decide +kernel
theorem dX7_hasItems_25 : decode cX7_hasItems 25 = .ok (.iload_n 2, 1) := by decide +kernel
theorem dX7_hasItems_26 : decode cX7_hasItems 26 = .ok (.isub, 1) := by decide +kernel
theorem dX7_hasItems_27 : decode cX7_hasItems 27 = .ok (.if_icmp .gt 7, 3) := by decide +kernel
theorem dX7_hasItems_30 : decode cX7_hasItems 30 = .ok (.iconst 1, 1) := by decide +kernel
theorem dX7_hasItems_31 : decode cX7_hasItems 31 = .ok (.goto 4, 3) := by decide +kernel
theorem dX7_hasItems_34 : decode cX7_hasItems 34 = .ok (.iconst 0, 1) := by decide +kernel
theorem dX7_hasItems_35 : decode cX7_hasItems 35 = .ok (.ireturn, 1) := by decide +kernel
theorem dX7_item_0 : decode cX7_item 0 = .ok (.aload_n 0, 1) := by decide +kernel
theorem dX7_item_1 : decode cX7_item 1 = .ok (.getfield 18, 3) := by decide +kernel
theorem dX7_item_4 : decode cX7_item 4 = .ok (.bipush 60, 2) := by decide +kernel
theorem dX7_item_6 : decode cX7_item 6 = .ok (.iload_n 1, 1) := by decide +kernel
theorem dX7_item_7 : decode cX7_item 7 = .ok (.imul, 1) := by decide +kernel
theorem dX7_item_8 : decode cX7_item 8 = .ok (.iload_n 2, 1) := by decide +kernel
theorem dX7_item_9 : decode cX7_item 9 = .ok (.iadd, 1) := by decide +kernel
theorem dX7_item_10 : decode cX7_item 10 = .ok (.iaload, 1) := by decide +kernel
theorem dX7_item_11 : decode cX7_item 11 = .ok (.ireturn, 1) := by decide +kernel
theorem dX7_put_0 : decode cX7_put 0 = .ok (.aload_n 0, 1) := by decide +kernel
theorem dX7_put_1 : decode cX7_put 1 = .ok (.getfield 18, 3) := by decide +kernel
theorem dX7_put_4 : decode cX7_put 4 = .ok (.bipush 60, 2) := by decide +kernel
theorem dX7_put_6 : decode cX7_put 6 = .ok (.iload_n 1, 1) := by decide +kernel
theorem dX7_put_7 : decode cX7_put 7 = .ok (.imul, 1) := by decide +kernel
theorem dX7_put_8 : decode cX7_put 8 = .ok (.iload_n 2, 1) := by decide +kernel
theorem dX7_put_9 : decode cX7_put 9 = .ok (.iadd, 1) := by decide +kernel
theorem dX7_put_10 : decode cX7_put 10 = .ok (.aload_n 0, 1) := by decide +kernel
theorem dX7_put_11 : decode cX7_put 11 = .ok (.getfield 15, 3) := by decide +kernel
theorem dX7_put_14 : decode cX7_put 14 = .ok (.iload_n 1, 1) := by decide +kernel
theorem dX7_put_15 : decode cX7_put 15 = .ok (.iaload, 1) := by decide +kernel
theorem dX7_put_16 : decode cX7_put 16 = .ok (.iload_n 3, 1) := by decide +kernel
theorem dX7_put_17 : decode cX7_put 17 = .ok (.invokestatic 29, 3) := by decide +kernel
theorem dX7_put_20 : decode cX7_put 20 = .ok (.iastore, 1) := by decide +kernel
theorem dX7_put_21 : decode cX7_put 21 = .ok (.return_, 1) := by decide +kernel
theorem dX7_move_0 : decode cX7_move 0 = .ok (.aload_n 0, 1) := by decide +kernel
theorem dX7_move_1 : decode cX7_move 1 = .ok (.getfield 18, 3) := by decide +kernel
theorem dX7_move_4 : decode cX7_move 4 = .ok (.bipush 60, 2) := by decide +kernel
theorem dX7_move_6 : decode cX7_move 6 = .ok (.iload_n 1, 1) := by decide +kernel
theorem dX7_move_7 : decode cX7_move 7 = .ok (.imul, 1) := by decide +kernel
theorem dX7_move_8 : decode cX7_move 8 = .ok (.iload_n 2, 1) := by decide +kernel
theorem dX7_move_9 : decode cX7_move 9 = .ok (.iadd, 1) := by decide +kernel
theorem dX7_move_10 : decode cX7_move 10 = .ok (.aload_n 0, 1) := by decide +kernel
theorem dX7_move_11 : decode cX7_move 11 = .ok (.getfield 18, 3) := by decide +kernel
theorem dX7_move_14 : decode cX7_move 14 = .ok (.bipush 60, 2) := by decide +kernel
theorem dX7_move_16 : decode cX7_move 16 = .ok (.iload_n 3, 1) := by decide +kernel
theorem dX7_move_17 : decode cX7_move 17 = .ok (.imul, 1) := by decide +kernel
theorem dX7_move_18 : decode cX7_move 18 = .ok (.iload 4, 2) := by decide +kernel
theorem dX7_move_20 : decode cX7_move 20 = .ok (.iadd, 1) := by decide +kernel
theorem dX7_move_21 : decode cX7_move 21 = .ok (.iload 5, 2) := by decide +kernel
theorem dX7_move_23 : decode cX7_move 23 = .ok (.invokestatic 33, 3) := by decide +kernel
theorem dX7_move_26 : decode cX7_move 26 = .ok (.return_, 1) := by decide +kernel
theorem dX7_cut_0 : decode cX7_cut 0 = .ok (.iload_n 0, 1) := by decide +kernel
theorem dX7_cut_1 : decode cX7_cut 1 = .ok (.lookupswitch 33 #[(0, 27), (1, 30)], 27) := by decide +kernel
theorem dX7_cut_28 : decode cX7_cut 28 = .ok (.iload_n 1, 1) := by decide +kernel
theorem dX7_cut_29 : decode cX7_cut 29 = .ok (.i2b, 1) := by decide +kernel
theorem dX7_cut_30 : decode cX7_cut 30 = .ok (.ireturn, 1) := by decide +kernel
theorem dX7_cut_31 : decode cX7_cut 31 = .ok (.iload_n 1, 1) := by decide +kernel
theorem dX7_cut_32 : decode cX7_cut 32 = .ok (.i2s, 1) := by decide +kernel
theorem dX7_cut_33 : decode cX7_cut 33 = .ok (.ireturn, 1) := by decide +kernel
theorem dX7_cut_34 : decode cX7_cut 34 = .ok (.iload_n 1, 1) := by decide +kernel
theorem dX7_cut_35 : decode cX7_cut 35 = .ok (.ireturn, 1) := by decide +kernel
theorem dJ6_bitCount_0f7a4_0 : decode cJ6_bitCount_0f7a4 0 = .ok (.iload_n 0, 1) := by decide +kernel
theorem dJ6_bitCount_0f7a4_1 : decode cJ6_bitCount_0f7a4 1 = .ok (.iload_n 0, 1) := by decide +kernel
theorem dJ6_bitCount_0f7a4_2 : decode cJ6_bitCount_0f7a4 2 = .ok (.iconst 1, 1) := by decide +kernel
theorem dJ6_bitCount_0f7a4_3 : decode cJ6_bitCount_0f7a4 3 = .ok (.iushr, 1) := by decide +kernel
theorem dJ6_bitCount_0f7a4_4 : decode cJ6_bitCount_0f7a4 4 = .ok (.ldc_w 265, 3) := by decide +kernel
theorem dJ6_bitCount_0f7a4_7 : decode cJ6_bitCount_0f7a4 7 = .ok (.iand, 1) := by decide +kernel
theorem dJ6_bitCount_0f7a4_8 : decode cJ6_bitCount_0f7a4 8 = .ok (.isub, 1) := by decide +kernel
theorem dJ6_bitCount_0f7a4_9 : decode cJ6_bitCount_0f7a4 9 = .ok (.istore_n 0, 1) := by decide +kernel
theorem dJ6_bitCount_0f7a4_10 : decode cJ6_bitCount_0f7a4 10 = .ok (.iload_n 0, 1) := by decide +kernel
theorem dJ6_bitCount_0f7a4_11 : decode cJ6_bitCount_0f7a4 11 = .ok (.ldc_w 266, 3) := by decide +kernel
theorem dJ6_bitCount_0f7a4_14 : decode cJ6_bitCount_0f7a4 14 = .ok (.iand, 1) := by decide +kernel
theorem dJ6_bitCount_0f7a4_15 : decode cJ6_bitCount_0f7a4 15 = .ok (.iload_n 0, 1) := by decide +kernel
theorem dJ6_bitCount_0f7a4_16 : decode cJ6_bitCount_0f7a4 16 = .ok (.iconst 2, 1) := by decide +kernel
theorem dJ6_bitCount_0f7a4_17 : decode cJ6_bitCount_0f7a4 17 = .ok (.iushr, 1) := by decide +kernel
theorem dJ6_bitCount_0f7a4_18 : decode cJ6_bitCount_0f7a4 18 = .ok (.ldc_w 266, 3) := by decide +kernel
theorem dJ6_bitCount_0f7a4_21 : decode cJ6_bitCount_0f7a4 21 = .ok (.iand, 1) := by decide +kernel
theorem dJ6_bitCount_0f7a4_22 : decode cJ6_bitCount_0f7a4 22 = .ok (.iadd, 1) := by decide +kernel
theorem dJ6_bitCount_0f7a4_23 : decode cJ6_bitCount_0f7a4 23 = .ok (.istore_n 0, 1) := by decide +kernel
theorem dJ6_bitCount_0f7a4_24 : decode cJ6_bitCount_0f7a4 24 = .ok (.iload_n 0, 1) := by decide +kernel
theorem dJ6_bitCount_0f7a4_25 : decode cJ6_bitCount_0f7a4 25 = .ok (.iload_n 0, 1) := by decide +kernel
theorem dJ6_bitCount_0f7a4_26 : decode cJ6_bitCount_0f7a4 26 = .ok (.iconst 4, 1) := by decide +kernel
theorem dJ6_bitCount_0f7a4_27 : decode cJ6_bitCount_0f7a4 27 = .ok (.iushr, 1) := by decide +kernel
theorem dJ6_bitCount_0f7a4_28 : decode cJ6_bitCount_0f7a4 28 = .ok (.iadd, 1) := by decide +kernel
theorem dJ6_bitCount_0f7a4_29 : decode cJ6_bitCount_0f7a4 29 = .ok (.ldc_w 267, 3) := by decide +kernel
theorem dJ6_bitCount_0f7a4_32 : decode cJ6_bitCount_0f7a4 32 = .ok (.iand, 1) := by decide +kernel
theorem dJ6_bitCount_0f7a4_33 : decode cJ6_bitCount_0f7a4 33 = .ok (.istore_n 0, 1) := by decide +kernel
theorem dJ6_bitCount_0f7a4_34 : decode cJ6_bitCount_0f7a4 34 = .ok (.iload_n 0, 1) := by decide +kernel
theorem dJ6_bitCount_0f7a4_35 : decode cJ6_bitCount_0f7a4 35 = .ok (.iload_n 0, 1) := by decide +kernel
theorem dJ6_bitCount_0f7a4_36 : decode cJ6_bitCount_0f7a4 36 = .ok (.bipush 8, 2) := by decide +kernel
theorem dJ6_bitCount_0f7a4_38 : decode cJ6_bitCount_0f7a4 38 = .ok (.iushr, 1) := by decide +kernel
theorem dJ6_bitCount_0f7a4_39 : decode cJ6_bitCount_0f7a4 39 = .ok (.iadd, 1) := by decide +kernel
theorem dJ6_bitCount_0f7a4_40 : decode cJ6_bitCount_0f7a4 40 = .ok (.istore_n 0, 1) := by decide +kernel
theorem dJ6_bitCount_0f7a4_41 : decode cJ6_bitCount_0f7a4 41 = .ok (.iload_n 0, 1) := by decide +kernel
theorem dJ6_bitCount_0f7a4_42 : decode cJ6_bitCount_0f7a4 42 = .ok (.iload_n 0, 1) := by decide +kernel
theorem dJ6_bitCount_0f7a4_43 : decode cJ6_bitCount_0f7a4 43 = .ok (.bipush 16, 2) := by decide +kernel
theorem dJ6_bitCount_0f7a4_45 : decode cJ6_bitCount_0f7a4 45 = .ok (.iushr, 1) := by decide +kernel
theorem dJ6_bitCount_0f7a4_46 : decode cJ6_bitCount_0f7a4 46 = .ok (.iadd, 1) := by decide +kernel
theorem dJ6_bitCount_0f7a4_47 : decode cJ6_bitCount_0f7a4 47 = .ok (.istore_n 0, 1) := by decide +kernel
theorem dJ6_bitCount_0f7a4_48 : decode cJ6_bitCount_0f7a4 48 = .ok (.iload_n 0, 1) := by decide +kernel
theorem dJ6_bitCount_0f7a4_49 : decode cJ6_bitCount_0f7a4 49 = .ok (.bipush 63, 2) := by decide +kernel
theorem dJ6_bitCount_0f7a4_51 : decode cJ6_bitCount_0f7a4 51 = .ok (.iand, 1) := by decide +kernel
theorem dJ6_bitCount_0f7a4_52 : decode cJ6_bitCount_0f7a4 52 = .ok (.ireturn, 1) := by decide +kernel
theorem dJ9_abs_067f4_0 : decode cJ9_abs_067f4 0 = .ok (.lload_n 0, 1) := by decide +kernel
theorem dJ9_abs_067f4_1 : decode cJ9_abs_067f4 1 = .ok (.lconst 0, 1) := by decide +kernel
theorem dJ9_abs_067f4_2 : decode cJ9_abs_067f4 2 = .ok (.lcmp, 1) := by decide +kernel
theorem dJ9_abs_067f4_3 : decode cJ9_abs_067f4 3 = .ok (.ifCond .ge 8, 3) := by decide +kernel
theorem dJ9_abs_067f4_6 : decode cJ9_abs_067f4 6 = .ok (.lload_n 0, 1) := by decide +kernel
theorem dJ9_abs_067f4_7 : decode cJ9_abs_067f4 7 = .ok (.lneg, 1) := by decide +kernel
theorem dJ9_abs_067f4_8 : decode cJ9_abs_067f4 8 = .ok (.goto 4, 3) := by decide +kernel
theorem dJ9_abs_067f4_11 : decode cJ9_abs_067f4 11 = .ok (.lload_n 0, 1) := by decide +kernel
theorem dJ9_abs_067f4_12 : decode cJ9_abs_067f4 12 = .ok (.lreturn, 1) := by decide +kernel
theorem dJ9_min_7cf53_0 : decode cJ9_min_7cf53 0 = .ok (.iload_n 0, 1) := by decide +kernel
theorem dJ9_min_7cf53_1 : decode cJ9_min_7cf53 1 = .ok (.iload_n 1, 1) := by decide +kernel
theorem dJ9_min_7cf53_2 : decode cJ9_min_7cf53 2 = .ok (.if_icmp .gt 7, 3) := by decide +kernel
theorem dJ9_min_7cf53_5 : decode cJ9_min_7cf53 5 = .ok (.iload_n 0, 1) := by decide +kernel
theorem dJ9_min_7cf53_6 : decode cJ9_min_7cf53 6 = .ok (.goto 4, 3) := by decide +kernel
theorem dJ9_min_7cf53_9 : decode cJ9_min_7cf53 9 = .ok (.iload_n 1, 1) := by decide +kernel
theorem dJ9_min_7cf53_10 : decode cJ9_min_7cf53 10 = .ok (.ireturn, 1) := by decide +kernel
