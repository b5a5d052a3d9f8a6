theorem dX8_init_0 : decode cX8_init 0 = .ok (.aload_n 0, 1) := by decide +kernel
theorem dX8_init_1 : decode cX8_init 1 = .ok (.invokespecial 3, 3) := by decide +kernel
theorem dX8_init_4 : decode cX8_init 4 = .ok (.aload_n 0, 1) := by decide +kernel
theorem dX8_init_5 : decode cX8_init 5 = .ok (.new 9, 3) := by decide +kernel
theorem dX8_init_8 : decode cX8_init 8 = .ok (.dup, 1) := by decide +kernel
theorem dX8_init_9 : decode cX8_init 9 = .ok (.invokespecial 11, 3) := by decide +kernel
theorem dX8_init_12 : decode cX8_init 12 = .ok (.putfield 12, 3) := by decide +kernel
theorem dX8_init_15 : decode cX8_init 15 = .ok (.aload_n 0, 1) := by decide +kernel
theorem dX8_init_16 : decode cX8_init 16 = .ok (.iconst 4, 1) := by decide +kernel
theorem dX8_init_17 : decode cX8_init 17 = .ok (.newarray .int, 2) := by decide +kernel
theorem dX8_init_19 : decode cX8_init 19 = .ok (.putfield 16, 3) := by decide +kernel
theorem dX8_init_22 : decode cX8_init 22 = .ok (.aload_n 0, 1) := by decide +kernel
theorem dX8_init_23 : decode cX8_init 23 = .ok (.iconst 4, 1) := by decide +kernel
theorem dX8_init_24 : decode cX8_init 24 = .ok (.newarray .int, 2) := by decide +kernel
theorem dX8_init_26 : decode cX8_init 26 = .ok (.dup, 1) := by decide +kernel
theorem dX8_init_27 : decode cX8_init 27 = .ok (.iconst 0, 1) := by decide +kernel
theorem dX8_init_28 : decode cX8_init 28 = .ok (.iconst 4, 1) := by decide +kernel
theorem dX8_init_29 : decode cX8_init 29 = .ok (.iastore, 1) := by decide +kernel
theorem dX8_init_30 : decode cX8_init 30 = .ok (.dup, 1) := by decide +kernel
theorem dX8_init_31 : decode cX8_init 31 = .ok (.iconst 1, 1) := by decide +kernel
theorem dX8_init_32 : decode cX8_init 32 = .ok (.iconst 4, 1) := by decide +kernel
theorem dX8_init_33 : decode cX8_init 33 = .ok (.iastore, 1) := by decide +kernel
theorem dX8_init_34 : decode cX8_init 34 = .ok (.dup, 1) := by decide +kernel
theorem dX8_init_35 : decode cX8_init 35 = .ok (.iconst 2, 1) := by decide +kernel
theorem dX8_init_36 : decode cX8_init 36 = .ok (.iconst 4, 1) := by decide +kernel
theorem dX8_init_37 : decode cX8_init 37 = .ok (.iastore, 1) := by decide +kernel
theorem dX8_init_38 : decode cX8_init 38 = .ok (.dup, 1) := by decide +kernel
theorem dX8_init_39 : decode cX8_init 39 = .ok (.iconst 3, 1) := by decide +kernel
theorem dX8_init_40 : decode cX8_init 40 = .ok (.iconst 4, 1) := by decide +kernel
theorem dX8_init_41 : decode cX8_init 41 = .ok (.iastore, 1) := by decide +kernel
theorem dX8_init_42 : decode cX8_init 42 = .ok (.putfield 20, 3) := by decide +kernel
theorem dX8_init_45 : decode cX8_init 45 = .ok (.aload_n 0, 1) := by decide +kernel
theorem dX8_init_46 : decode cX8_init 46 = .ok (.iconst 5, 1) := by decide +kernel
theorem dX8_init_47 : decode cX8_init 47 = .ok (.newarray .int, 2) := by decide +kernel
theorem dX8_init_49 : decode cX8_init 49 = .ok (.putfield 23, 3) := by decide +kernel
theorem dX8_init_52 : decode cX8_init 52 = .ok (.aload_n 0, 1) := by decide +kernel
theorem dX8_init_53 : decode cX8_init 53 = .ok (.new 26, 3) := by decide +kernel
theorem dX8_init_56 : decode cX8_init 56 = .ok (.dup, 1) := by decide +kernel
theorem dX8_init_57 : decode cX8_init 57 = .ok (.aload_n 0, 1) := by decide +kernel
theorem dX8_init_58 : decode cX8_init 58 = .ok (.getfield 12, 3) := by decide +kernel
theorem dX8_init_61 : decode cX8_init 61 = .ok (.aload_n 0, 1) := by decide +kernel
theorem dX8_init_62 : decode cX8_init 62 = .ok (.getfield 16, 3) := by decide +kernel
theorem dX8_init_65 : decode cX8_init 65 = .ok (.aload_n 0, 1) := by decide +kernel
theorem dX8_init_66 : decode cX8_init 66 = .ok (.getfield 20, 3) := by decide +kernel
theorem dX8_init_69 : decode cX8_init 69 = .ok (.invokespecial 28, 3) := by decide +kernel
theorem dX8_init_72 : decode cX8_init 72 = .ok (.putfield 31, 3) := by decide +kernel
theorem dX8_init_75 : decode cX8_init 75 = .ok (.aload_n 0, 1) := by decide +kernel
theorem dX8_init_76 : decode cX8_init 76 = .ok (.new 35, 3) := by decide +kernel
theorem dX8_init_79 : decode cX8_init 79 = .ok (.dup, 1) := by decide +kernel
theorem dX8_init_80 : decode cX8_init 80 = .ok (.aload_n 0, 1) := by decide +kernel
theorem dX8_init_81 : decode cX8_init 81 = .ok (.getfield 31, 3) := by decide +kernel
theorem dX8_init_84 : decode cX8_init 84 = .ok (.invokespecial 37, 3) := by decide +kernel
theorem dX8_init_87 : decode cX8_init 87 = .ok (.putfield 40, 3) := by decide +kernel
theorem dX8_init_90 : decode cX8_init 90 = .ok (.aload_n 0, 1) := by decide +kernel
theorem dX8_init_91 : decode cX8_init 91 = .ok (.new 44, 3) := by decide +kernel
theorem dX8_init_94 : decode cX8_init 94 = .ok (.dup, 1) := by decide +kernel
theorem dX8_init_95 : decode cX8_init 95 = .ok (.aload_n 0, 1) := by decide +kernel
theorem dX8_init_96 : decode cX8_init 96 = .ok (.getfield 31, 3) := by decide +kernel
theorem dX8_init_99 : decode cX8_init 99 = .ok (.aload_n 0, 1) := by decide +kernel
theorem dX8_init_100 : decode cX8_init 100 = .ok (.getfield 40, 3) := by decide +kernel
theorem dX8_init_103 : decode cX8_init 103 = .ok (.invokespecial 46, 3) := by decide +kernel
theorem dX8_init_106 : decode cX8_init 106 = .ok (.putfield 49, 3) := by decide +kernel
theorem dX8_init_109 : decode cX8_init 109 = .ok (.aload_n 0, 1) := by decide +kernel
theorem dX8_init_110 : decode cX8_init 110 = .ok (.new 53, 3) := by decide +kernel
theorem dX8_init_113 : decode cX8_init 113 = .ok (.dup, 1) := by decide +kernel
theorem dX8_init_114 : decode cX8_init 114 = .ok (.invokespecial 55, 3) := by decide +kernel
theorem dX8_init_117 : decode cX8_init 117 = .ok (.putfield 56, 3) := by decide +kernel
theorem dX8_init_120 : decode cX8_init 120 = .ok (.aload_n 0, 1) := by decide +kernel
theorem dX8_init_121 : decode cX8_init 121 = .ok (.new 60, 3) := by decide +kernel
theorem dX8_init_124 : decode cX8_init 124 = .ok (.dup, 1) := by decide +kernel
theorem dX8_init_125 : decode cX8_init 125 = .ok (.invokespecial 62, 3) := by decide +kernel
theorem dX8_init_128 : decode cX8_init 128 = .ok (.putfield 63, 3) := by decide +kernel
theorem dX8_init_131 : decode cX8_init 131 = .ok (.aload_n 0, 1) := by decide +kernel
theorem dX8_init_132 : decode cX8_init 132 = .ok (.new 67, 3) := by decide +kernel
theorem dX8_init_135 : decode cX8_init 135 = .ok (.dup, 1) := by decide +kernel
theorem dX8_init_136 : decode cX8_init 136 = .ok (.invokespecial 69, 3) := by decide +kernel
theorem dX8_init_139 : decode cX8_init 139 = .ok (.putfield 70, 3) := by decide +kernel
theorem dX8_init_142 : decode cX8_init 142 = .ok (.aload_n 0, 1) := by decide +kernel
theorem dX8_init_143 : decode cX8_init 143 = .ok (.new 74, 3) := by decide +kernel
theorem dX8_init_146 : decode cX8_init 146 = .ok (.dup, 1) := by decide +kernel
theorem dX8_init_147 : decode cX8_init 147 = .ok (.invokespecial 76, 3) := by decide +kernel
theorem dX8_init_150 : decode cX8_init 150 = .ok (.putfield 77, 3) := by decide +kernel
theorem dX8_init_153 : decode cX8_init 153 = .ok (.return_, 1) := by decide +kernel
theorem dX8_type_0 : decode cX8_type 0 = .ok (.iload_n 1, 1) := by decide +kernel
theorem dX8_type_1 : decode cX8_type 1 = .ok (.sipush 255, 3) := by decide +kernel
theorem dX8_type_4 : decode cX8_type 4 = .ok (.invokestatic 81, 3) := by decide +kernel
theorem dX8_type_7 : decode cX8_type 7 = .ok (.ifCond .ne 6, 3) := by decide +kernel
theorem dX8_type_10 : decode cX8_type 10 = .ok (.bipush (-2), 2) := by decide +kernel
theorem dX8_type_12 : decode cX8_type 12 = .ok (.ireturn, 1) := by decide +kernel
theorem dX8_type_13 : decode cX8_type 13 = .ok (.aload_n 0, 1) := by decide +kernel
theorem dX8_type_14 : decode cX8_type 14 = .ok (.getfield 12, 3) := by decide +kernel
theorem dX8_type_17 : decode cX8_type 17 = .ok (.iload_n 1, 1) := by decide +kernel
theorem dX8_type_18 : decode cX8_type 18 = .ok (.invokevirtual 85, 3) := by decide +kernel
theorem dX8_type_21 : decode cX8_type 21 = .ok (.ifCond .eq 13, 3) := by decide +kernel
theorem dX8_type_24 : decode cX8_type 24 = .ok (.aload_n 0, 1) := by decide +kernel
theorem dX8_type_25 : decode cX8_type 25 = .ok (.getfield 12, 3) := by decide +kernel
theorem dX8_type_28 : decode cX8_type 28 = .ok (.getfield 89, 3) := by decide +kernel
theorem dX8_type_31 : decode cX8_type 31 = .ok (.goto 5, 3) := by decide +kernel
theorem dX8_type_34 : decode cX8_type 34 = .ok (.bipush (-4), 2) := by decide +kernel
theorem dX8_type_36 : decode cX8_type 36 = .ok (.ireturn, 1) := by decide +kernel
theorem dX8_wipe_0 : decode cX8_wipe 0 = .ok (.aload_n 0, 1) := by decide +kernel
theorem dX8_wipe_1 : decode cX8_wipe 1 = .ok (.getfield 12, 3) := by decide +kernel
theorem dX8_wipe_4 : decode cX8_wipe 4 = .ok (.getfield 89, 3) := by decide +kernel
theorem dX8_wipe_7 : decode cX8_wipe 7 = .ok (.istore_n 1, 1) := by decide +kernel
theorem dX8_wipe_8 : decode cX8_wipe 8 = .ok (.aload_n 0, 1) := by decide +kernel
theorem dX8_wipe_9 : decode cX8_wipe 9 = .ok (.getfield 12, 3) := by decide +kernel
theorem dX8_wipe_12 : decode cX8_wipe 12 = .ok (.invokevirtual 93, 3) := by decide +kernel
theorem dX8_wipe_15 : decode cX8_wipe 15 = .ok (.iload_n 1, 1) := by decide +kernel
theorem dX8_wipe_16 : decode cX8_wipe 16 = .ok (.ireturn, 1) := by decide +kernel
theorem dX8_fault_0 : decode cX8_fault 0 = .ok (.aload_n 0, 1) := by decide +kernel
theorem dX8_fault_1 : decode cX8_fault 1 = .ok (.getfield 12, 3) := by decide +kernel
theorem dX8_fault_4 : decode cX8_fault 4 = .ok (.getfield 96, 3) := by decide +kernel
theorem dX8_fault_7 : decode cX8_fault 7 = .ok (.ireturn, 1) := by decide +kernel
theorem dX8_person_0 : decode cX8_person 0 = .ok (.aload_n 0, 1) := by decide +kernel
theorem dX8_person_1 : decode cX8_person 1 = .ok (.iload_n 1, 1) := by decide +kernel
theorem dX8_person_2 : decode cX8_person 2 = .ok (.invokevirtual 99, 3) := by decide +kernel
theorem dX8_person_5 : decode cX8_person 5 = .ok (.ifCond .eq 11, 3) := by decide +kernel
theorem dX8_person_8 : decode cX8_person 8 = .ok (.iload_n 2, 1) := by decide +kernel
theorem dX8_person_9 : decode cX8_person 9 = .ok (.iconst 3, 1) := by decide +kernel
theorem dX8_person_10 : decode cX8_person 10 = .ok (.invokestatic 81, 3) := by decide +kernel
theorem dX8_person_13 : decode cX8_person 13 = .ok (.ifCond .ne 6, 3) := by decide +kernel
theorem dX8_person_16 : decode cX8_person 16 = .ok (.bipush (-2), 2) := by decide +kernel
theorem dX8_person_18 : decode cX8_person 18 = .ok (.ireturn, 1) := by decide +kernel
theorem dX8_person_19 : decode cX8_person 19 = .ok (.aload_n 0, 1) := by decide +kernel
theorem dX8_person_20 : decode cX8_person 20 = .ok (.getfield 12, 3) := by decide +kernel
theorem dX8_person_23 : decode cX8_person 23 = .ok (.getfield 102, 3) := by decide +kernel
theorem dX8_person_26 : decode cX8_person 26 = .ok (.iconst 4, 1) := by decide +kernel
theorem dX8_person_27 : decode cX8_person 27 = .ok (.iload_n 1, 1) := by decide +kernel
theorem dX8_person_28 : decode cX8_person 28 = .ok (.imul, 1) := by decide +kernel
theorem dX8_person_29 : decode cX8_person 29 = .ok (.iload_n 2, 1) := by decide +kernel
theorem dX8_person_30 : decode cX8_person 30 = .ok (.iadd, 1) := by decide +kernel
theorem dX8_person_31 : decode cX8_person 31 = .ok (.iaload, 1) := by decide +kernel
theorem dX8_person_32 : decode cX8_person 32 = .ok (.ireturn, 1) := by decide +kernel
theorem dX8_tale_0 : decode cX8_tale 0 = .ok (.aload_n 0, 1) := by decide +kernel
theorem dX8_tale_1 : decode cX8_tale 1 = .ok (.iload_n 1, 1) := by decide +kernel
theorem dX8_tale_2 : decode cX8_tale 2 = .ok (.invokevirtual 105, 3) := by decide +kernel
theorem dX8_tale_5 : decode cX8_tale 5 = .ok (.ifCond .eq 15, 3) := by decide +kernel
theorem dX8_tale_8 : decode cX8_tale 8 = .ok (.aload_n 0, 1) := by decide +kernel
theorem dX8_tale_9 : decode cX8_tale 9 = .ok (.getfield 12, 3) := by decide +kernel
theorem dX8_tale_12 : decode cX8_tale 12 = .ok (.getfield 108, 3) := by decide +kernel
theorem dX8_tale_15 : decode cX8_tale 15 = .ok (.iload_n 1, 1) := by decide +kernel
theorem dX8_tale_16 : decode cX8_tale 16 = .ok (.iaload, 1) := by decide +kernel
theorem dX8_tale_17 : decode cX8_tale 17 = .ok (.goto 5, 3) := by decide +kernel
theorem dX8_tale_20 : decode cX8_tale 20 = .ok (.bipush (-2), 2) := by decide +kernel
theorem dX8_tale_22 : decode cX8_tale 22 = .ok (.ireturn, 1) := by decide +kernel
theorem dX8_law_0 : decode cX8_law 0 = .ok (.iload_n 1, 1) := by decide +kernel
theorem dX8_law_1 : decode cX8_law 1 = .ok (.iconst 2, 1) := by decide +kernel
theorem dX8_law_2 : decode cX8_law 2 = .ok (.invokestatic 81, 3) := by decide +kernel
theorem dX8_law_5 : decode cX8_law 5 = .ok (.ifCond .eq 15, 3) := by decide +kernel
theorem dX8_law_8 : decode cX8_law 8 = .ok (.aload_n 0, 1) := by decide +kernel
theorem dX8_law_9 : decode cX8_law 9 = .ok (.getfield 12, 3) := by decide +kernel
theorem dX8_law_12 : decode cX8_law 12 = .ok (.getfield 111, 3) := by decide +kernel
theorem dX8_law_15 : decode cX8_law 15 = .ok (.iload_n 1, 1) := by decide +kernel
theorem dX8_law_16 : decode cX8_law 16 = .ok (.iaload, 1) := by decide +kernel
theorem dX8_law_17 : decode cX8_law 17 = .ok (.goto 5, 3) := by decide +kernel
theorem dX8_law_20 : decode cX8_law 20 = .ok (.bipush (-2), 2) := by decide +kernel
theorem dX8_law_22 : decode cX8_law 22 = .ok (.ireturn, 1) := by decide +kernel
theorem dX8_holds_0 : decode cX8_holds 0 = .ok (.iload_n 1, 1) := by decide +kernel
theorem dX8_holds_1 : decode cX8_holds 1 = .ok (.iconst 3, 1) := by decide +kernel
theorem dX8_holds_2 : decode cX8_holds 2 = .ok (.invokestatic 81, 3) := by decide +kernel
theorem dX8_holds_5 : decode cX8_holds 5 = .ok (.ifCond .eq 12, 3) := by decide +kernel
theorem dX8_holds_8 : decode cX8_holds 8 = .ok (.iload_n 2, 1) := by decide +kernel
theorem dX8_holds_9 : decode cX8_holds 9 = .ok (.bipush 15, 2) := by decide +kernel
theorem dX8_holds_11 : decode cX8_holds 11 = .ok (.invokestatic 81, 3) := by decide +kernel
theorem dX8_holds_14 : decode cX8_holds 14 = .ok (.ifCond .ne 6, 3) := by decide +kernel
theorem dX8_holds_17 : decode cX8_holds 17 = .ok (.bipush (-2), 2) := by decide +kernel
theorem dX8_holds_19 : decode cX8_holds 19 = .ok (.ireturn, 1) := by decide +kernel
theorem dX8_holds_20 : decode cX8_holds 20 = .ok (.aload_n 0, 1) := by decide +kernel
theorem dX8_holds_21 : decode cX8_holds 21 = .ok (.getfield 16, 3) := by decide +kernel
theorem dX8_holds_24 : decode cX8_holds 24 = .ok (.iload_n 1, 1) := by decide +kernel
theorem dX8_holds_25 : decode cX8_holds 25 = .ok (.iaload, 1) := by decide +kernel
theorem dX8_holds_26 : decode cX8_holds 26 = .ok (.istore_n 3, 1) := by decide +kernel
theorem dX8_holds_27 : decode cX8_holds 27 = .ok (.aload_n 0, 1) := by decide +kernel
theorem dX8_holds_28 : decode cX8_holds 28 = .ok (.getfield 16, 3) := by decide +kernel
theorem dX8_holds_31 : decode cX8_holds 31 = .ok (.iload_n 1, 1) := by decide +kernel
theorem dX8_holds_32 : decode cX8_holds 32 = .ok (.iload_n 2, 1) := by decide +kernel
theorem dX8_holds_33 : decode cX8_holds 33 = .ok (.iastore, 1) := by decide +kernel
theorem dX8_holds_34 : decode cX8_holds 34 = .ok (.iload_n 3, 1) := by decide +kernel
theorem dX8_holds_35 : decode cX8_holds 35 = .ok (.ireturn, 1) := by decide +kernel
theorem dX8_leaves_0 : decode cX8_leaves 0 = .ok (.iload_n 1, 1) := by decide +kernel
theorem dX8_leaves_1 : decode cX8_leaves 1 = .ok (.iconst 3, 1) := by decide +kernel
theorem dX8_leaves_2 : decode cX8_leaves 2 = .ok (.invokestatic 81, 3) := by decide +kernel
theorem dX8_leaves_5 : decode cX8_leaves 5 = .ok (.ifCond .eq 11, 3) := by decide +kernel
theorem dX8_leaves_8 : decode cX8_leaves 8 = .ok (.iload_n 2, 1) := by decide +kernel
theorem dX8_leaves_9 : decode cX8_leaves 9 = .ok (.iconst 4, 1) := by decide +kernel
theorem dX8_leaves_10 : decode cX8_leaves 10 = .ok (.invokestatic 81, 3) := by decide +kernel
theorem dX8_leaves_13 : decode cX8_leaves 13 = .ok (.ifCond .ne 6, 3) := by decide +kernel
theorem dX8_leaves_16 : decode cX8_leaves 16 = .ok (.bipush (-2), 2) := by decide +kernel
theorem dX8_leaves_18 : decode cX8_leaves 18 = .ok (.ireturn, 1) := by decide +kernel
theorem dX8_leaves_19 : decode cX8_leaves 19 = .ok (.aload_n 0, 1) := by decide +kernel
theorem dX8_leaves_20 : decode cX8_leaves 20 = .ok (.getfield 20, 3) := by decide +kernel
theorem dX8_leaves_23 : decode cX8_leaves 23 = .ok (.iload_n 1, 1) := by decide +kernel
theorem dX8_leaves_24 : decode cX8_leaves 24 = .ok (.iaload, 1) := by decide +kernel
theorem dX8_leaves_25 : decode cX8_leaves 25 = .ok (.istore_n 3, 1) := by decide +kernel
theorem dX8_leaves_26 : decode cX8_leaves 26 = .ok (.aload_n 0, 1) := by decide +kernel
theorem dX8_leaves_27 : decode cX8_leaves 27 = .ok (.getfield 20, 3) := by decide +kernel
theorem dX8_leaves_30 : decode cX8_leaves 30 = .ok (.iload_n 1, 1) := by decide +kernel
theorem dX8_leaves_31 : decode cX8_leaves 31 = .ok (.iload_n 2, 1) := by decide +kernel
theorem dX8_leaves_32 : decode cX8_leaves 32 = .ok (.iastore, 1) := by decide +kernel
theorem dX8_leaves_33 : decode cX8_leaves 33 = .ok (.iload_n 3, 1) := by decide +kernel
theorem dX8_leaves_34 : decode cX8_leaves 34 = .ok (.ireturn, 1) := by decide +kernel
theorem dX8_quarters_0 : decode cX8_quarters 0 = .ok (.aload_n 0, 1) := by decide +kernel
theorem dX8_quarters_1 : decode cX8_quarters 1 = .ok (.iload_n 1, 1) := by decide +kernel
theorem dX8_quarters_2 : decode cX8_quarters 2 = .ok (.invokevirtual 99, 3) := by decide +kernel
theorem dX8_quarters_5 : decode cX8_quarters 5 = .ok (.ifCond .eq 11, 3) := by decide +kernel
theorem dX8_quarters_8 : decode cX8_quarters 8 = .ok (.aload_n 0, 1) := by decide +kernel
theorem dX8_quarters_9 : decode cX8_quarters 9 = .ok (.iload_n 2, 1) := by decide +kernel
theorem dX8_quarters_10 : decode cX8_quarters 10 = .ok (.invokevirtual 105, 3) := by decide +kernel
theorem dX8_quarters_13 : decode cX8_quarters 13 = .ok (.ifCond .ne 6, 3) := by decide +kernel
theorem dX8_quarters_16 : decode cX8_quarters 16 = .ok (.bipush (-2), 2) := by decide +kernel
theorem dX8_quarters_18 : decode cX8_quarters 18 = .ok (.ireturn, 1) := by decide +kernel
theorem dX8_quarters_19 : decode cX8_quarters 19 = .ok (.aload_n 0, 1) := by decide +kernel
theorem dX8_quarters_20 : decode cX8_quarters 20 = .ok (.getfield 31, 3) := by decide +kernel
theorem dX8_quarters_23 : decode cX8_quarters 23 = .ok (.invokevirtual 114, 3) := by decide +kernel
theorem dX8_quarters_26 : decode cX8_quarters 26 = .ok (.aload_n 0, 1) := by decide +kernel
theorem dX8_quarters_27 : decode cX8_quarters 27 = .ok (.getfield 31, 3) := by decide +kernel
theorem dX8_quarters_30 : decode cX8_quarters 30 = .ok (.iload_n 1, 1) := by decide +kernel
theorem dX8_quarters_31 : decode cX8_quarters 31 = .ok (.iload_n 2, 1) := by decide +kernel
theorem dX8_quarters_32 : decode cX8_quarters 32 = .ok (.invokevirtual 117, 3) := by decide +kernel
theorem dX8_quarters_35 : decode cX8_quarters 35 = .ok (.ireturn, 1) := by decide +kernel
theorem dX8_owes_0 : decode cX8_owes 0 = .ok (.aload_n 0, 1) := by decide +kernel
theorem dX8_owes_1 : decode cX8_owes 1 = .ok (.iload_n 1, 1) := by decide +kernel
theorem dX8_owes_2 : decode cX8_owes 2 = .ok (.invokevirtual 99, 3) := by decide +kernel
theorem dX8_owes_5 : decode cX8_owes 5 = .ok (.ifCond .eq 24, 3) := by decide +kernel
theorem dX8_owes_8 : decode cX8_owes 8 = .ok (.iload_n 2, 1) := by decide +kernel
theorem dX8_owes_9 : decode cX8_owes 9 = .ok (.aload_n 0, 1) := by decide +kernel
theorem dX8_owes_10 : decode cX8_owes 10 = .ok (.getfield 12, 3) := by decide +kernel
theorem dX8_owes_13 : decode cX8_owes 13 = .ok (.getfield 121, 3) := by decide +kernel
theorem dX8_owes_16 : decode cX8_owes 16 = .ok (.invokestatic 81, 3) := by decide +kernel
theorem dX8_owes_19 : decode cX8_owes 19 = .ok (.ifCond .eq 10, 3) := by decide +kernel
theorem dX8_owes_22 : decode cX8_owes 22 = .ok (.iload_n 3, 1) := by decide +kernel
theorem dX8_owes_23 : decode cX8_owes 23 = .ok (.invokestatic 124, 3) := by decide +kernel
theorem dX8_owes_26 : decode cX8_owes 26 = .ok (.ifCond .ne 9, 3) := by decide +kernel
theorem dX8_owes_29 : decode cX8_owes 29 = .ok (.bipush (-2), 2) := by decide +kernel
theorem dX8_owes_31 : decode cX8_owes 31 = .ok (.invokestatic 127, 3) := by decide +kernel
theorem dX8_owes_34 : decode cX8_owes 34 = .ok (.lreturn, 1) := by decide +kernel
theorem dX8_owes_35 : decode cX8_owes 35 = .ok (.aload_n 0, 1) := by decide +kernel
theorem dX8_owes_36 : decode cX8_owes 36 = .ok (.getfield 31, 3) := by decide +kernel
theorem dX8_owes_39 : decode cX8_owes 39 = .ok (.invokevirtual 114, 3) := by decide +kernel
theorem dX8_owes_42 : decode cX8_owes 42 = .ok (.aload_n 0, 1) := by decide +kernel
theorem dX8_owes_43 : decode cX8_owes 43 = .ok (.getfield 40, 3) := by decide +kernel
theorem dX8_owes_46 : decode cX8_owes 46 = .ok (.invokevirtual 131, 3) := by decide +kernel
theorem dX8_owes_49 : decode cX8_owes 49 = .ok (.aload_n 0, 1) := by decide +kernel
theorem dX8_owes_50 : decode cX8_owes 50 = .ok (.iload_n 1, 1) := by decide +kernel
theorem dX8_owes_51 : decode cX8_owes 51 = .ok (.iload_n 2, 1) := by decide +kernel
theorem dX8_owes_52 : decode cX8_owes 52 = .ok (.invokevirtual 134, 3) := by decide +kernel
theorem dX8_owes_55 : decode cX8_owes 55 = .ok (.iload_n 3, 1) := by decide +kernel
theorem dX8_owes_56 : decode cX8_owes 56 = .ok (.invokevirtual 138, 3) := by decide +kernel
theorem dX8_owes_59 : decode cX8_owes 59 = .ok (.lreturn, 1) := by decide +kernel
theorem dX8_amount_0 : decode cX8_amount 0 = .ok (.aload_n 0, 1) := by decide +kernel
theorem dX8_amount_1 : decode cX8_amount 1 = .ok (.iload_n 1, 1) := by decide +kernel
theorem dX8_amount_2 : decode cX8_amount 2 = .ok (.invokevirtual 99, 3) := by decide +kernel
theorem dX8_amount_5 : decode cX8_amount 5 = .ok (.ifCond .eq 10, 3) := by decide +kernel
theorem dX8_amount_8 : decode cX8_amount 8 = .ok (.iload_n 2, 1) := by decide +kernel
theorem dX8_amount_9 : decode cX8_amount 9 = .ok (.invokestatic 124, 3) := by decide +kernel
theorem dX8_amount_12 : decode cX8_amount 12 = .ok (.ifCond .ne 9, 3) := by decide +kernel
theorem dX8_amount_15 : decode cX8_amount 15 = .ok (.bipush (-2), 2) := by decide +kernel
theorem dX8_amount_17 : decode cX8_amount 17 = .ok (.invokestatic 127, 3) := by decide +kernel
theorem dX8_amount_20 : decode cX8_amount 20 = .ok (.lreturn, 1) := by decide +kernel
theorem dX8_amount_21 : decode cX8_amount 21 = .ok (.aload_n 0, 1) := by decide +kernel
theorem dX8_amount_22 : decode cX8_amount 22 = .ok (.getfield 31, 3) := by decide +kernel
theorem dX8_amount_25 : decode cX8_amount 25 = .ok (.invokevirtual 114, 3) := by decide +kernel
theorem dX8_amount_28 : decode cX8_amount 28 = .ok (.aload_n 0, 1) := by decide +kernel
theorem dX8_amount_29 : decode cX8_amount 29 = .ok (.getfield 40, 3) := by decide +kernel
theorem dX8_amount_32 : decode cX8_amount 32 = .ok (.invokevirtual 131, 3) := by decide +kernel
theorem dX8_amount_35 : decode cX8_amount 35 = .ok (.aload_n 0, 1) := by decide +kernel
theorem dX8_amount_36 : decode cX8_amount 36 = .ok (.iload_n 1, 1) := by decide +kernel
theorem dX8_amount_37 : decode cX8_amount 37 = .ok (.invokevirtual 141, 3) := by decide +kernel
theorem dX8_amount_40 : decode cX8_amount 40 = .ok (.iload_n 2, 1) := by decide +kernel
theorem dX8_amount_41 : decode cX8_amount 41 = .ok (.invokevirtual 138, 3) := by decide +kernel
theorem dX8_amount_44 : decode cX8_amount 44 = .ok (.lreturn, 1) := by decide +kernel
theorem dX8_cost_0 : decode cX8_cost 0 = .ok (.aload_n 0, 1) := by decide +kernel
theorem dX8_cost_1 : decode cX8_cost 1 = .ok (.iload_n 1, 1) := by decide +kernel
theorem dX8_cost_2 : decode cX8_cost 2 = .ok (.invokevirtual 99, 3) := by decide +kernel
theorem dX8_cost_5 : decode cX8_cost 5 = .ok (.ifCond .eq 10, 3) := by decide +kernel
theorem dX8_cost_8 : decode cX8_cost 8 = .ok (.iload_n 2, 1) := by decide +kernel
theorem dX8_cost_9 : decode cX8_cost 9 = .ok (.invokestatic 124, 3) := by decide +kernel
theorem dX8_cost_12 : decode cX8_cost 12 = .ok (.ifCond .ne 9, 3) := by decide +kernel
theorem dX8_cost_15 : decode cX8_cost 15 = .ok (.bipush (-2), 2) := by decide +kernel
theorem dX8_cost_17 : decode cX8_cost 17 = .ok (.invokestatic 127, 3) := by decide +kernel
theorem dX8_cost_20 : decode cX8_cost 20 = .ok (.lreturn, 1) := by decide +kernel
theorem dX8_cost_21 : decode cX8_cost 21 = .ok (.aload_n 0, 1) := by decide +kernel
theorem dX8_cost_22 : decode cX8_cost 22 = .ok (.getfield 31, 3) := by decide +kernel
theorem dX8_cost_25 : decode cX8_cost 25 = .ok (.invokevirtual 114, 3) := by decide +kernel
theorem dX8_cost_28 : decode cX8_cost 28 = .ok (.aload_n 0, 1) := by decide +kernel
theorem dX8_cost_29 : decode cX8_cost 29 = .ok (.getfield 40, 3) := by decide +kernel
theorem dX8_cost_32 : decode cX8_cost 32 = .ok (.invokevirtual 131, 3) := by decide +kernel
theorem dX8_cost_35 : decode cX8_cost 35 = .ok (.aload_n 0, 1) := by decide +kernel
theorem dX8_cost_36 : decode cX8_cost 36 = .ok (.aload_n 0, 1) := by decide +kernel
theorem dX8_cost_37 : decode cX8_cost 37 = .ok (.getfield 40, 3) := by decide +kernel
theorem dX8_cost_40 : decode cX8_cost 40 = .ok (.iload_n 1, 1) := by decide +kernel
theorem dX8_cost_41 : decode cX8_cost 41 = .ok (.invokevirtual 145, 3) := by decide +kernel
theorem dX8_cost_44 : decode cX8_cost 44 = .ok (.invokevirtual 148, 3) := by decide +kernel
theorem dX8_cost_47 : decode cX8_cost 47 = .ok (.iload_n 2, 1) := by decide +kernel
theorem dX8_cost_48 : decode cX8_cost 48 = .ok (.invokevirtual 138, 3) := by decide +kernel
theorem dX8_cost_51 : decode cX8_cost 51 = .ok (.lreturn, 1) := by decide +kernel
theorem dX8_best_0 : decode cX8_best 0 = .ok (.aload_n 0, 1) := by decide +kernel
theorem dX8_best_1 : decode cX8_best 1 = .ok (.iload_n 1, 1) := by decide +kernel
theorem dX8_best_2 : decode cX8_best 2 = .ok (.invokevirtual 99, 3) := by decide +kernel
theorem dX8_best_5 : decode cX8_best 5 = .ok (.ifCond .eq 11, 3) := by decide +kernel
theorem dX8_best_8 : decode cX8_best 8 = .ok (.iload_n 2, 1) := by decide +kernel
theorem dX8_best_9 : decode cX8_best 9 = .ok (.iconst 3, 1) := by decide +kernel
theorem dX8_best_10 : decode cX8_best 10 = .ok (.invokestatic 81, 3) := by decide +kernel
theorem dX8_best_13 : decode cX8_best 13 = .ok (.ifCond .ne 9, 3) := by decide +kernel
theorem dX8_best_16 : decode cX8_best 16 = .ok (.bipush (-2), 2) := by decide +kernel
theorem dX8_best_18 : decode cX8_best 18 = .ok (.invokestatic 127, 3) := by decide +kernel
theorem dX8_best_21 : decode cX8_best 21 = .ok (.lreturn, 1) := by decide +kernel
theorem dX8_best_22 : decode cX8_best 22 = .ok (.aload_n 0, 1) := by decide +kernel
theorem dX8_best_23 : decode cX8_best 23 = .ok (.getfield 49, 3) := by decide +kernel
theorem dX8_best_26 : decode cX8_best 26 = .ok (.iload_n 1, 1) := by decide +kernel
theorem dX8_best_27 : decode cX8_best 27 = .ok (.invokevirtual 152, 3) := by decide +kernel
theorem dX8_best_30 : decode cX8_best 30 = .ok (.iload_n 2, 1) := by decide +kernel
theorem dX8_best_31 : decode cX8_best 31 = .ok (.iconst 2, 1) := by decide +kernel
theorem dX8_best_32 : decode cX8_best 32 = .ok (.if_icmp .ne 12, 3) := by decide +kernel
theorem dX8_best_35 : decode cX8_best 35 = .ok (.aload_n 0, 1) := by decide +kernel
theorem dX8_best_36 : decode cX8_best 36 = .ok (.getfield 49, 3) := by decide +kernel
theorem dX8_best_39 : decode cX8_best 39 = .ok (.getfield 156, 3) := by decide +kernel
theorem dX8_best_42 : decode cX8_best 42 = .ok (.i2l, 1) := by decide +kernel
theorem dX8_best_43 : decode cX8_best 43 = .ok (.lreturn, 1) := by decide +kernel
theorem dX8_best_44 : decode cX8_best 44 = .ok (.iload_n 2, 1) := by decide +kernel
theorem dX8_best_45 : decode cX8_best 45 = .ok (.iconst 3, 1) := by decide +kernel
theorem dX8_best_46 : decode cX8_best 46 = .ok (.if_icmp .ne 12, 3) := by decide +kernel
theorem dX8_best_49 : decode cX8_best 49 = .ok (.aload_n 0, 1) := by decide +kernel
theorem dX8_best_50 : decode cX8_best 50 = .ok (.getfield 49, 3) := by decide +kernel
theorem dX8_best_53 : decode cX8_best 53 = .ok (.getfield 159, 3) := by decide +kernel
theorem dX8_best_56 : decode cX8_best 56 = .ok (.i2l, 1) := by decide +kernel
theorem dX8_best_57 : decode cX8_best 57 = .ok (.lreturn, 1) := by decide +kernel
theorem dX8_best_58 : decode cX8_best 58 = .ok (.aload_n 0, 1) := by decide +kernel
theorem dX8_best_59 : decode cX8_best 59 = .ok (.aload_n 0, 1) := by decide +kernel
theorem dX8_best_60 : decode cX8_best 60 = .ok (.getfield 49, 3) := by decide +kernel
theorem dX8_best_63 : decode cX8_best 63 = .ok (.getfield 162, 3) := by decide +kernel
theorem dX8_best_66 : decode cX8_best 66 = .ok (.invokevirtual 148, 3) := by decide +kernel
theorem dX8_best_69 : decode cX8_best 69 = .ok (.iload_n 2, 1) := by decide +kernel
theorem dX8_best_70 : decode cX8_best 70 = .ok (.invokevirtual 138, 3) := by decide +kernel
theorem dX8_best_73 : decode cX8_best 73 = .ok (.lreturn, 1) := by decide +kernel
theorem dX8_rest_0 : decode cX8_rest 0 = .ok (.iload_n 1, 1) := by decide +kernel
theorem dX8_rest_1 : decode cX8_rest 1 = .ok (.iconst (-1), 1) := by decide +kernel
theorem dX8_rest_2 : decode cX8_rest 2 = .ok (.if_icmp .ne 11, 3) := by decide +kernel
theorem dX8_rest_5 : decode cX8_rest 5 = .ok (.iload_n 2, 1) := by decide +kernel
theorem dX8_rest_6 : decode cX8_rest 6 = .ok (.ifCond .ne 7, 3) := by decide +kernel
theorem dX8_rest_9 : decode cX8_rest 9 = .ok (.iconst 1, 1) := by decide +kernel
theorem dX8_rest_10 : decode cX8_rest 10 = .ok (.goto 4, 3) := by decide +kernel
theorem dX8_rest_13 : decode cX8_rest 13 = .ok (.iconst 0, 1) := by decide +kernel
theorem dX8_rest_14 : decode cX8_rest 14 = .ok (.istore_n 3, 1) := by decide +kernel
theorem dX8_rest_15 : decode cX8_rest 15 = .ok (.iload_n 3, 1) := by decide +kernel
theorem dX8_rest_16 : decode cX8_rest 16 = .ok (.ifCond .ne 21, 3) := by decide +kernel
theorem dX8_rest_19 : decode cX8_rest 19 = .ok (.aload_n 0, 1) := by decide +kernel
theorem dX8_rest_20 : decode cX8_rest 20 = .ok (.iload_n 1, 1) := by decide +kernel
theorem dX8_rest_21 : decode cX8_rest 21 = .ok (.invokevirtual 99, 3) := by decide +kernel
theorem dX8_rest_24 : decode cX8_rest 24 = .ok (.ifCond .eq 10, 3) := by decide +kernel
theorem dX8_rest_27 : decode cX8_rest 27 = .ok (.iload_n 2, 1) := by decide +kernel
theorem dX8_rest_28 : decode cX8_rest 28 = .ok (.invokestatic 124, 3) := by decide +kernel
theorem dX8_rest_31 : decode cX8_rest 31 = .ok (.ifCond .ne 6, 3) := by decide +kernel
theorem dX8_rest_34 : decode cX8_rest 34 = .ok (.bipush (-2), 2) := by decide +kernel
theorem dX8_rest_36 : decode cX8_rest 36 = .ok (.ireturn, 1) := by decide +kernel
theorem dX8_rest_37 : decode cX8_rest 37 = .ok (.aload_n 0, 1) := by decide +kernel
theorem dX8_rest_38 : decode cX8_rest 38 = .ok (.getfield 49, 3) := by decide +kernel
theorem dX8_rest_41 : decode cX8_rest 41 = .ok (.invokevirtual 166, 3) := by decide +kernel
theorem dX8_rest_44 : decode cX8_rest 44 = .ok (.aload_n 0, 1) := by decide +kernel
theorem dX8_rest_45 : decode cX8_rest 45 = .ok (.iload_n 1, 1) := by decide +kernel
theorem dX8_rest_46 : decode cX8_rest 46 = .ok (.iload_n 2, 1) := by decide +kernel
theorem dX8_rest_47 : decode cX8_rest 47 = .ok (.invokevirtual 169, 3) := by decide +kernel
theorem dX8_rest_50 : decode cX8_rest 50 = .ok (.ireturn, 1) := by decide +kernel
theorem dX8_order_0 : decode cX8_order 0 = .ok (.aload_n 0, 1) := by decide +kernel
theorem dX8_order_1 : decode cX8_order 1 = .ok (.iload_n 1, 1) := by decide +kernel
theorem dX8_order_2 : decode cX8_order 2 = .ok (.invokevirtual 99, 3) := by decide +kernel
theorem dX8_order_5 : decode cX8_order 5 = .ok (.ifCond .eq 11, 3) := by decide +kernel
theorem dX8_order_8 : decode cX8_order 8 = .ok (.aload_n 0, 1) := by decide +kernel
theorem dX8_order_9 : decode cX8_order 9 = .ok (.iload_n 2, 1) := by decide +kernel
theorem dX8_order_10 : decode cX8_order 10 = .ok (.invokevirtual 105, 3) := by decide +kernel
theorem dX8_order_13 : decode cX8_order 13 = .ok (.ifCond .ne 6, 3) := by decide +kernel
theorem dX8_order_16 : decode cX8_order 16 = .ok (.bipush (-2), 2) := by decide +kernel
theorem dX8_order_18 : decode cX8_order 18 = .ok (.ireturn, 1) := by decide +kernel
theorem dX8_order_19 : decode cX8_order 19 = .ok (.aload_n 0, 1) := by decide +kernel
theorem dX8_order_20 : decode cX8_order 20 = .ok (.getfield 49, 3) := by decide +kernel
theorem dX8_order_23 : decode cX8_order 23 = .ok (.iload_n 1, 1) := by decide +kernel
theorem dX8_order_24 : decode cX8_order 24 = .ok (.invokevirtual 172, 3) := by decide +kernel
theorem dX8_order_27 : decode cX8_order 27 = .ok (.aload_n 0, 1) := by decide +kernel
theorem dX8_order_28 : decode cX8_order 28 = .ok (.getfield 49, 3) := by decide +kernel
theorem dX8_order_31 : decode cX8_order 31 = .ok (.getfield 175, 3) := by decide +kernel
theorem dX8_order_34 : decode cX8_order 34 = .ok (.iload_n 2, 1) := by decide +kernel
theorem dX8_order_35 : decode cX8_order 35 = .ok (.iaload, 1) := by decide +kernel
theorem dX8_order_36 : decode cX8_order 36 = .ok (.ireturn, 1) := by decide +kernel
theorem dX8_among_0 : decode cX8_among 0 = .ok (.aload_n 0, 1) := by decide +kernel
theorem dX8_among_1 : decode cX8_among 1 = .ok (.iload_n 1, 1) := by decide +kernel
theorem dX8_among_2 : decode cX8_among 2 = .ok (.invokevirtual 99, 3) := by decide +kernel
theorem dX8_among_5 : decode cX8_among 5 = .ok (.ifCond .ne 6, 3) := by decide +kernel
theorem dX8_among_8 : decode cX8_among 8 = .ok (.bipush (-2), 2) := by decide +kernel
theorem dX8_among_10 : decode cX8_among 10 = .ok (.ireturn, 1) := by decide +kernel
theorem dX8_among_11 : decode cX8_among 11 = .ok (.aload_n 0, 1) := by decide +kernel
theorem dX8_among_12 : decode cX8_among 12 = .ok (.getfield 49, 3) := by decide +kernel
theorem dX8_among_15 : decode cX8_among 15 = .ok (.iload_n 1, 1) := by decide +kernel
theorem dX8_among_16 : decode cX8_among 16 = .ok (.invokevirtual 178, 3) := by decide +kernel
theorem dX8_among_19 : decode cX8_among 19 = .ok (.ireturn, 1) := by decide +kernel
theorem dX8_hire_0 : decode cX8_hire 0 = .ok (.aload_n 0, 1) := by decide +kernel
theorem dX8_hire_1 : decode cX8_hire 1 = .ok (.iload_n 1, 1) := by decide +kernel
theorem dX8_hire_2 : decode cX8_hire 2 = .ok (.invokevirtual 99, 3) := by decide +kernel
theorem dX8_hire_5 : decode cX8_hire 5 = .ok (.ifCond .eq 19, 3) := by decide +kernel
theorem dX8_hire_8 : decode cX8_hire 8 = .ok (.iload_n 2, 1) := by decide +kernel
theorem dX8_hire_9 : decode cX8_hire 9 = .ok (.bipush 9, 2) := by decide +kernel
theorem dX8_hire_11 : decode cX8_hire 11 = .ok (.invokestatic 81, 3) := by decide +kernel
theorem dX8_hire_14 : decode cX8_hire 14 = .ok (.ifCond .eq 10, 3) := by decide +kernel
theorem dX8_hire_17 : decode cX8_hire 17 = .ok (.iload_n 3, 1) := by decide +kernel
theorem dX8_hire_18 : decode cX8_hire 18 = .ok (.invokestatic 124, 3) := by decide +kernel
theorem dX8_hire_21 : decode cX8_hire 21 = .ok (.ifCond .ne 9, 3) := by decide +kernel
theorem dX8_hire_24 : decode cX8_hire 24 = .ok (.bipush (-2), 2) := by decide +kernel
theorem dX8_hire_26 : decode cX8_hire 26 = .ok (.invokestatic 127, 3) := by decide +kernel
theorem dX8_hire_29 : decode cX8_hire 29 = .ok (.lreturn, 1) := by decide +kernel
theorem dX8_hire_30 : decode cX8_hire 30 = .ok (.aload_n 0, 1) := by decide +kernel
theorem dX8_hire_31 : decode cX8_hire 31 = .ok (.getfield 12, 3) := by decide +kernel
theorem dX8_hire_34 : decode cX8_hire 34 = .ok (.getfield 182, 3) := by decide +kernel
theorem dX8_hire_37 : decode cX8_hire 37 = .ok (.iconst 4, 1) := by decide +kernel
theorem dX8_hire_38 : decode cX8_hire 38 = .ok (.if_icmp .lt 9, 3) := by decide +kernel
theorem dX8_hire_41 : decode cX8_hire 41 = .ok (.bipush (-4), 2) := by decide +kernel
theorem dX8_hire_43 : decode cX8_hire 43 = .ok (.invokestatic 127, 3) := by decide +kernel
theorem dX8_hire_46 : decode cX8_hire 46 = .ok (.lreturn, 1) := by decide +kernel
theorem dX8_hire_47 : decode cX8_hire 47 = .ok (.aload_n 0, 1) := by decide +kernel
theorem dX8_hire_48 : decode cX8_hire 48 = .ok (.getfield 31, 3) := by decide +kernel
theorem dX8_hire_51 : decode cX8_hire 51 = .ok (.invokevirtual 114, 3) := by decide +kernel
theorem dX8_hire_54 : decode cX8_hire 54 = .ok (.aload_n 0, 1) := by decide +kernel
theorem dX8_hire_55 : decode cX8_hire 55 = .ok (.getfield 40, 3) := by decide +kernel
theorem dX8_hire_58 : decode cX8_hire 58 = .ok (.invokevirtual 131, 3) := by decide +kernel
theorem dX8_hire_61 : decode cX8_hire 61 = .ok (.aload_n 0, 1) := by decide +kernel
theorem dX8_hire_62 : decode cX8_hire 62 = .ok (.getfield 40, 3) := by decide +kernel
theorem dX8_hire_65 : decode cX8_hire 65 = .ok (.iload_n 1, 1) := by decide +kernel
theorem dX8_hire_66 : decode cX8_hire 66 = .ok (.invokevirtual 145, 3) := by decide +kernel
theorem dX8_hire_69 : decode cX8_hire 69 = .ok (.lstore 4, 2) := by decide +kernel
theorem dX8_hire_71 : decode cX8_hire 71 = .ok (.aload_n 0, 1) := by decide +kernel
theorem dX8_hire_72 : decode cX8_hire 72 = .ok (.getfield 31, 3) := by decide +kernel
theorem dX8_hire_75 : decode cX8_hire 75 = .ok (.iload_n 2, 1) := by decide +kernel
theorem dX8_hire_76 : decode cX8_hire 76 = .ok (.invokevirtual 185, 3) := by decide +kernel
theorem dX8_hire_79 : decode cX8_hire 79 = .ok (.aload_n 0, 1) := by decide +kernel
theorem dX8_hire_80 : decode cX8_hire 80 = .ok (.getfield 40, 3) := by decide +kernel
theorem dX8_hire_83 : decode cX8_hire 83 = .ok (.invokevirtual 131, 3) := by decide +kernel
theorem dX8_hire_86 : decode cX8_hire 86 = .ok (.aload_n 0, 1) := by decide +kernel
theorem dX8_hire_87 : decode cX8_hire 87 = .ok (.lload 4, 2) := by decide +kernel
theorem dX8_hire_89 : decode cX8_hire 89 = .ok (.aload_n 0, 1) := by decide +kernel
theorem dX8_hire_90 : decode cX8_hire 90 = .ok (.getfield 40, 3) := by decide +kernel
theorem dX8_hire_93 : decode cX8_hire 93 = .ok (.iload_n 1, 1) := by decide +kernel
theorem dX8_hire_94 : decode cX8_hire 94 = .ok (.invokevirtual 145, 3) := by decide +kernel
theorem dX8_hire_97 : decode cX8_hire 97 = .ok (.lsub, 1) := by decide +kernel
theorem dX8_hire_98 : decode cX8_hire 98 = .ok (.invokevirtual 148, 3) := by decide +kernel
theorem dX8_hire_101 : decode cX8_hire 101 = .ok (.iload_n 3, 1) := by decide +kernel
theorem dX8_hire_102 : decode cX8_hire 102 = .ok (.invokevirtual 138, 3) := by decide +kernel
theorem dX8_hire_105 : decode cX8_hire 105 = .ok (.lreturn, 1) := by decide +kernel
theorem dX8_other_0 : decode cX8_other 0 = .ok (.aload_n 0, 1) := by decide +kernel
theorem dX8_other_1 : decode cX8_other 1 = .ok (.iload_n 1, 1) := by decide +kernel
theorem dX8_other_2 : decode cX8_other 2 = .ok (.invokevirtual 99, 3) := by decide +kernel
theorem dX8_other_5 : decode cX8_other 5 = .ok (.ifCond .eq 27, 3) := by decide +kernel
theorem dX8_other_8 : decode cX8_other 8 = .ok (.iload_n 2, 1) := by decide +kernel
theorem dX8_other_9 : decode cX8_other 9 = .ok (.iconst 2, 1) := by decide +kernel
theorem dX8_other_10 : decode cX8_other 10 = .ok (.invokestatic 81, 3) := by decide +kernel
theorem dX8_other_13 : decode cX8_other 13 = .ok (.ifCond .eq 19, 3) := by decide +kernel
theorem dX8_other_16 : decode cX8_other 16 = .ok (.iload_n 3, 1) := by decide +kernel
theorem dX8_other_17 : decode cX8_other 17 = .ok (.iconst 2, 1) := by decide +kernel
theorem dX8_other_18 : decode cX8_other 18 = .ok (.invokestatic 81, 3) := by decide +kernel
theorem dX8_other_21 : decode cX8_other 21 = .ok (.ifCond .eq 11, 3) := by decide +kernel
theorem dX8_other_24 : decode cX8_other 24 = .ok (.iload 4, 2) := by decide +kernel
theorem dX8_other_26 : decode cX8_other 26 = .ok (.invokestatic 124, 3) := by decide +kernel
theorem dX8_other_29 : decode cX8_other 29 = .ok (.ifCond .ne 9, 3) := by decide +kernel
theorem dX8_other_32 : decode cX8_other 32 = .ok (.bipush (-2), 2) := by decide +kernel
theorem dX8_other_34 : decode cX8_other 34 = .ok (.invokestatic 127, 3) := by decide +kernel
theorem dX8_other_37 : decode cX8_other 37 = .ok (.lreturn, 1) := by decide +kernel
theorem dX8_other_38 : decode cX8_other 38 = .ok (.aload_n 0, 1) := by decide +kernel
theorem dX8_other_39 : decode cX8_other 39 = .ok (.getfield 31, 3) := by decide +kernel
theorem dX8_other_42 : decode cX8_other 42 = .ok (.invokevirtual 114, 3) := by decide +kernel
theorem dX8_other_45 : decode cX8_other 45 = .ok (.aload_n 0, 1) := by decide +kernel
theorem dX8_other_46 : decode cX8_other 46 = .ok (.getfield 31, 3) := by decide +kernel
theorem dX8_other_49 : decode cX8_other 49 = .ok (.iload_n 2, 1) := by decide +kernel
theorem dX8_other_50 : decode cX8_other 50 = .ok (.putfield 188, 3) := by decide +kernel
theorem dX8_other_53 : decode cX8_other 53 = .ok (.aload_n 0, 1) := by decide +kernel
theorem dX8_other_54 : decode cX8_other 54 = .ok (.getfield 31, 3) := by decide +kernel
theorem dX8_other_57 : decode cX8_other 57 = .ok (.iload_n 3, 1) := by decide +kernel
theorem dX8_other_58 : decode cX8_other 58 = .ok (.putfield 191, 3) := by decide +kernel
theorem dX8_other_61 : decode cX8_other 61 = .ok (.aload_n 0, 1) := by decide +kernel
theorem dX8_other_62 : decode cX8_other 62 = .ok (.getfield 40, 3) := by decide +kernel
theorem dX8_other_65 : decode cX8_other 65 = .ok (.invokevirtual 131, 3) := by decide +kernel
theorem dX8_other_68 : decode cX8_other 68 = .ok (.aload_n 0, 1) := by decide +kernel
theorem dX8_other_69 : decode cX8_other 69 = .ok (.iload_n 1, 1) := by decide +kernel
theorem dX8_other_70 : decode cX8_other 70 = .ok (.invokevirtual 141, 3) := by decide +kernel
theorem dX8_other_73 : decode cX8_other 73 = .ok (.iload 4, 2) := by decide +kernel
theorem dX8_other_75 : decode cX8_other 75 = .ok (.invokevirtual 138, 3) := by decide +kernel
theorem dX8_other_78 : decode cX8_other 78 = .ok (.lreturn, 1) := by decide +kernel
theorem dX8_lawFor_0 : decode cX8_lawFor 0 = .ok (.aload_n 0, 1) := by decide +kernel
theorem dX8_lawFor_1 : decode cX8_lawFor 1 = .ok (.iload_n 1, 1) := by decide +kernel
theorem dX8_lawFor_2 : decode cX8_lawFor 2 = .ok (.invokevirtual 99, 3) := by decide +kernel
theorem dX8_lawFor_5 : decode cX8_lawFor 5 = .ok (.ifCond .ne 6, 3) := by decide +kernel
theorem dX8_lawFor_8 : decode cX8_lawFor 8 = .ok (.bipush (-2), 2) := by decide +kernel
theorem dX8_lawFor_10 : decode cX8_lawFor 10 = .ok (.ireturn, 1) := by decide +kernel
theorem dX8_lawFor_11 : decode cX8_lawFor 11 = .ok (.aload_n 0, 1) := by decide +kernel
theorem dX8_lawFor_12 : decode cX8_lawFor 12 = .ok (.getfield 49, 3) := by decide +kernel
theorem dX8_lawFor_15 : decode cX8_lawFor 15 = .ok (.iload_n 1, 1) := by decide +kernel
theorem dX8_lawFor_16 : decode cX8_lawFor 16 = .ok (.invokevirtual 194, 3) := by decide +kernel
theorem dX8_lawFor_19 : decode cX8_lawFor 19 = .ok (.ireturn, 1) := by decide +kernel
theorem dX8_edge_0 : decode cX8_edge 0 = .ok (.aload_n 0, 1) := by decide +kernel
theorem dX8_edge_1 : decode cX8_edge 1 = .ok (.iload_n 1, 1) := by decide +kernel
theorem dX8_edge_2 : decode cX8_edge 2 = .ok (.invokevirtual 99, 3) := by decide +kernel
theorem dX8_edge_5 : decode cX8_edge 5 = .ok (.ifCond .ne 6, 3) := by decide +kernel
theorem dX8_edge_8 : decode cX8_edge 8 = .ok (.bipush (-2), 2) := by decide +kernel
theorem dX8_edge_10 : decode cX8_edge 10 = .ok (.ireturn, 1) := by decide +kernel
theorem dX8_edge_11 : decode cX8_edge 11 = .ok (.aload_n 0, 1) := by decide +kernel
theorem dX8_edge_12 : decode cX8_edge 12 = .ok (.getfield 49, 3) := by decide +kernel
theorem dX8_edge_15 : decode cX8_edge 15 = .ok (.iload_n 1, 1) := by decide +kernel
theorem dX8_edge_16 : decode cX8_edge 16 = .ok (.invokevirtual 197, 3) := by decide +kernel
theorem dX8_edge_19 : decode cX8_edge 19 = .ok (.ireturn, 1) := by decide +kernel
theorem dX8_weight_0 : decode cX8_weight 0 = .ok (.iload_n 1, 1) := by decide +kernel
theorem dX8_weight_1 : decode cX8_weight 1 = .ok (.iconst 4, 1) := by decide +kernel
theorem dX8_weight_2 : decode cX8_weight 2 = .ok (.invokestatic 81, 3) := by decide +kernel
theorem dX8_weight_5 : decode cX8_weight 5 = .ok (.ifCond .eq 12, 3) := by decide +kernel
theorem dX8_weight_8 : decode cX8_weight 8 = .ok (.iload_n 2, 1) := by decide +kernel
theorem dX8_weight_9 : decode cX8_weight 9 = .ok (.bipush 9, 2) := by decide +kernel
theorem dX8_weight_11 : decode cX8_weight 11 = .ok (.invokestatic 81, 3) := by decide +kernel
theorem dX8_weight_14 : decode cX8_weight 14 = .ok (.ifCond .ne 6, 3) := by decide +kernel
theorem dX8_weight_17 : decode cX8_weight 17 = .ok (.bipush (-2), 2) := by decide +kernel
theorem dX8_weight_19 : decode cX8_weight 19 = .ok (.ireturn, 1) := by decide +kernel
theorem dX8_weight_20 : decode cX8_weight 20 = .ok (.aload_n 0, 1) := by decide +kernel
theorem dX8_weight_21 : decode cX8_weight 21 = .ok (.getfield 23, 3) := by decide +kernel
theorem dX8_weight_24 : decode cX8_weight 24 = .ok (.iload_n 1, 1) := by decide +kernel
theorem dX8_weight_25 : decode cX8_weight 25 = .ok (.iaload, 1) := by decide +kernel
theorem dX8_weight_26 : decode cX8_weight 26 = .ok (.istore_n 3, 1) := by decide +kernel
theorem dX8_weight_27 : decode cX8_weight 27 = .ok (.aload_n 0, 1) := by decide +kernel
theorem dX8_weight_28 : decode cX8_weight 28 = .ok (.getfield 23, 3) := by decide +kernel
theorem dX8_weight_31 : decode cX8_weight 31 = .ok (.iload_n 1, 1) := by decide +kernel
theorem dX8_weight_32 : decode cX8_weight 32 = .ok (.iload_n 2, 1) := by decide +kernel
theorem dX8_weight_33 : decode cX8_weight 33 = .ok (.iastore, 1) := by decide +kernel
theorem dX8_weight_34 : decode cX8_weight 34 = .ok (.iload_n 3, 1) := by decide +kernel
theorem dX8_weight_35 : decode cX8_weight 35 = .ok (.ireturn, 1) := by decide +kernel
theorem dX8_early_0 : decode cX8_early 0 = .ok (.aload_n 0, 1) := by decide +kernel
theorem dX8_early_1 : decode cX8_early 1 = .ok (.iload_n 1, 1) := by decide +kernel
theorem dX8_early_2 : decode cX8_early 2 = .ok (.invokevirtual 99, 3) := by decide +kernel
theorem dX8_early_5 : decode cX8_early 5 = .ok (.ifCond .eq 10, 3) := by decide +kernel
theorem dX8_early_8 : decode cX8_early 8 = .ok (.iload_n 2, 1) := by decide +kernel
theorem dX8_early_9 : decode cX8_early 9 = .ok (.invokestatic 124, 3) := by decide +kernel
theorem dX8_early_12 : decode cX8_early 12 = .ok (.ifCond .ne 9, 3) := by decide +kernel
theorem dX8_early_15 : decode cX8_early 15 = .ok (.bipush (-2), 2) := by decide +kernel
theorem dX8_early_17 : decode cX8_early 17 = .ok (.invokestatic 127, 3) := by decide +kernel
theorem dX8_early_20 : decode cX8_early 20 = .ok (.lreturn, 1) := by decide +kernel
theorem dX8_early_21 : decode cX8_early 21 = .ok (.aload_n 0, 1) := by decide +kernel
theorem dX8_early_22 : decode cX8_early 22 = .ok (.invokevirtual 200, 3) := by decide +kernel
theorem dX8_early_25 : decode cX8_early 25 = .ok (.istore_n 3, 1) := by decide +kernel
theorem dX8_early_26 : decode cX8_early 26 = .ok (.iload_n 3, 1) := by decide +kernel
theorem dX8_early_27 : decode cX8_early 27 = .ok (.ifCond .ne 9, 3) := by decide +kernel
theorem dX8_early_30 : decode cX8_early 30 = .ok (.bipush (-3), 2) := by decide +kernel
theorem dX8_early_32 : decode cX8_early 32 = .ok (.invokestatic 127, 3) := by decide +kernel
theorem dX8_early_35 : decode cX8_early 35 = .ok (.lreturn, 1) := by decide +kernel
theorem dX8_early_36 : decode cX8_early 36 = .ok (.aload_n 0, 1) := by decide +kernel
theorem dX8_early_37 : decode cX8_early 37 = .ok (.getfield 31, 3) := by decide +kernel
theorem dX8_early_40 : decode cX8_early 40 = .ok (.invokevirtual 114, 3) := by decide +kernel
theorem dX8_early_43 : decode cX8_early 43 = .ok (.aload_n 0, 1) := by decide +kernel
theorem dX8_early_44 : decode cX8_early 44 = .ok (.getfield 40, 3) := by decide +kernel
theorem dX8_early_47 : decode cX8_early 47 = .ok (.invokevirtual 131, 3) := by decide +kernel
theorem dX8_early_50 : decode cX8_early 50 = .ok (.lconst 0, 1) := by decide +kernel
theorem dX8_early_51 : decode cX8_early 51 = .ok (.lstore 4, 2) := by decide +kernel
theorem dX8_early_53 : decode cX8_early 53 = .ok (.iconst 0, 1) := by decide +kernel
theorem dX8_early_54 : decode cX8_early 54 = .ok (.istore 6, 2) := by decide +kernel
theorem dX8_early_56 : decode cX8_early 56 = .ok (.iload 6, 2) := by decide +kernel
theorem dX8_early_58 : decode cX8_early 58 = .ok (.iconst 4, 1) := by decide +kernel
theorem dX8_early_59 : decode cX8_early 59 = .ok (.if_icmp .gt 43, 3) := by decide +kernel
theorem dX8_early_62 : decode cX8_early 62 = .ok (.lload 4, 2) := by decide +kernel
theorem dX8_early_64 : decode cX8_early 64 = .ok (.aload_n 0, 1) := by decide +kernel
theorem dX8_early_65 : decode cX8_early 65 = .ok (.getfield 23, 3) := by decide +kernel
theorem dX8_early_68 : decode cX8_early 68 = .ok (.iload 6, 2) := by decide +kernel
theorem dX8_early_70 : decode cX8_early 70 = .ok (.iaload, 1) := by decide +kernel
theorem dX8_early_71 : decode cX8_early 71 = .ok (.i2l, 1) := by decide +kernel
theorem dX8_early_72 : decode cX8_early 72 = .ok (.aload_n 0, 1) := by decide +kernel
theorem dX8_early_73 : decode cX8_early 73 = .ok (.getfield 40, 3) := by decide +kernel
theorem dX8_early_76 : decode cX8_early 76 = .ok (.iload_n 1, 1) := by decide +kernel
theorem dX8_early_77 : decode cX8_early 77 = .ok (.iload 6, 2) := by decide +kernel
theorem dX8_early_79 : decode cX8_early 79 = .ok (.aload_n 0, 1) := by decide +kernel
theorem dX8_early_80 : decode cX8_early 80 = .ok (.getfield 12, 3) := by decide +kernel
theorem dX8_early_83 : decode cX8_early 83 = .ok (.getfield 121, 3) := by decide +kernel
theorem dX8_early_86 : decode cX8_early 86 = .ok (.invokestatic 204, 3) := by decide +kernel
theorem dX8_early_89 : decode cX8_early 89 = .ok (.invokevirtual 209, 3) := by decide +kernel
theorem dX8_early_92 : decode cX8_early 92 = .ok (.lmul, 1) := by decide +kernel
theorem dX8_early_93 : decode cX8_early 93 = .ok (.ladd, 1) := by decide +kernel
theorem dX8_early_94 : decode cX8_early 94 = .ok (.lstore 4, 2) := by decide +kernel
theorem dX8_early_96 : decode cX8_early 96 = .ok (.iinc 6 1, 3) := by decide +kernel
theorem dX8_early_99 : decode cX8_early 99 = .ok (.goto (-43), 3) := by decide +kernel
theorem dX8_early_102 : decode cX8_early 102 = .ok (.aload_n 0, 1) := by decide +kernel
theorem dX8_early_103 : decode cX8_early 103 = .ok (.getfield 63, 3) := by decide +kernel
theorem dX8_early_106 : decode cX8_early 106 = .ok (.lload 4, 2) := by decide +kernel
theorem dX8_early_108 : decode cX8_early 108 = .ok (.iload_n 3, 1) := by decide +kernel
theorem dX8_early_109 : decode cX8_early 109 = .ok (.i2l, 1) := by decide +kernel
theorem dX8_early_110 : decode cX8_early 110 = .ok (.aload_n 0, 1) := by decide +kernel
theorem dX8_early_111 : decode cX8_early 111 = .ok (.getfield 40, 3) := by decide +kernel
theorem dX8_early_114 : decode cX8_early 114 = .ok (.invokevirtual 213, 3) := by decide +kernel
theorem dX8_early_117 : decode cX8_early 117 = .ok (.lmul, 1) := by decide +kernel
theorem dX8_early_118 : decode cX8_early 118 = .ok (.invokevirtual 217, 3) := by decide +kernel
theorem dX8_early_121 : decode cX8_early 121 = .ok (.iload_n 2, 1) := by decide +kernel
theorem dX8_early_122 : decode cX8_early 122 = .ok (.invokevirtual 138, 3) := by decide +kernel
theorem dX8_early_125 : decode cX8_early 125 = .ok (.lreturn, 1) := by decide +kernel
theorem dX8_two_0 : decode cX8_two 0 = .ok (.iload_n 1, 1) := by decide +kernel
theorem dX8_two_1 : decode cX8_two 1 = .ok (.invokestatic 124, 3) := by decide +kernel
theorem dX8_two_4 : decode cX8_two 4 = .ok (.ifCond .ne 9, 3) := by decide +kernel
theorem dX8_two_7 : decode cX8_two 7 = .ok (.bipush (-2), 2) := by decide +kernel
theorem dX8_two_9 : decode cX8_two 9 = .ok (.invokestatic 127, 3) := by decide +kernel
theorem dX8_two_12 : decode cX8_two 12 = .ok (.lreturn, 1) := by decide +kernel
theorem dX8_two_13 : decode cX8_two 13 = .ok (.aload_n 0, 1) := by decide +kernel
theorem dX8_two_14 : decode cX8_two 14 = .ok (.getfield 12, 3) := by decide +kernel
theorem dX8_two_17 : decode cX8_two 17 = .ok (.getfield 182, 3) := by decide +kernel
theorem dX8_two_20 : decode cX8_two 20 = .ok (.iconst 2, 1) := by decide +kernel
theorem dX8_two_21 : decode cX8_two 21 = .ok (.if_icmp .eq 9, 3) := by decide +kernel
theorem dX8_two_24 : decode cX8_two 24 = .ok (.bipush (-3), 2) := by decide +kernel
theorem dX8_two_26 : decode cX8_two 26 = .ok (.invokestatic 127, 3) := by decide +kernel
theorem dX8_two_29 : decode cX8_two 29 = .ok (.lreturn, 1) := by decide +kernel
theorem dX8_two_30 : decode cX8_two 30 = .ok (.aload_n 0, 1) := by decide +kernel
theorem dX8_two_31 : decode cX8_two 31 = .ok (.getfield 31, 3) := by decide +kernel
theorem dX8_two_34 : decode cX8_two 34 = .ok (.invokevirtual 114, 3) := by decide +kernel
theorem dX8_two_37 : decode cX8_two 37 = .ok (.aload_n 0, 1) := by decide +kernel
theorem dX8_two_38 : decode cX8_two 38 = .ok (.getfield 40, 3) := by decide +kernel
theorem dX8_two_41 : decode cX8_two 41 = .ok (.iconst 0, 1) := by decide +kernel
theorem dX8_two_42 : decode cX8_two 42 = .ok (.iconst 1, 1) := by decide +kernel
theorem dX8_two_43 : decode cX8_two 43 = .ok (.invokevirtual 221, 3) := by decide +kernel
theorem dX8_two_46 : decode cX8_two 46 = .ok (.lstore_n 2, 1) := by decide +kernel
theorem dX8_two_47 : decode cX8_two 47 = .ok (.aload_n 0, 1) := by decide +kernel
theorem dX8_two_48 : decode cX8_two 48 = .ok (.getfield 40, 3) := by decide +kernel
theorem dX8_two_51 : decode cX8_two 51 = .ok (.iconst 1, 1) := by decide +kernel
theorem dX8_two_52 : decode cX8_two 52 = .ok (.iconst 0, 1) := by decide +kernel
theorem dX8_two_53 : decode cX8_two 53 = .ok (.invokevirtual 221, 3) := by decide +kernel
theorem dX8_two_56 : decode cX8_two 56 = .ok (.lstore 4, 2) := by decide +kernel
theorem dX8_two_58 : decode cX8_two 58 = .ok (.lload_n 2, 1) := by decide +kernel
theorem dX8_two_59 : decode cX8_two 59 = .ok (.lload 4, 2) := by decide +kernel
theorem dX8_two_61 : decode cX8_two 61 = .ok (.ladd, 1) := by decide +kernel
theorem dX8_two_62 : decode cX8_two 62 = .ok (.lconst 0, 1) := by decide +kernel
theorem dX8_two_63 : decode cX8_two 63 = .ok (.lcmp, 1) := by decide +kernel
theorem dX8_two_64 : decode cX8_two 64 = .ok (.ifCond .ne 9, 3) := by decide +kernel
theorem dX8_two_67 : decode cX8_two 67 = .ok (.bipush (-3), 2) := by decide +kernel
theorem dX8_two_69 : decode cX8_two 69 = .ok (.invokestatic 127, 3) := by decide +kernel
theorem dX8_two_72 : decode cX8_two 72 = .ok (.lreturn, 1) := by decide +kernel
theorem dX8_two_73 : decode cX8_two 73 = .ok (.aload_n 0, 1) := by decide +kernel
theorem dX8_two_74 : decode cX8_two 74 = .ok (.getfield 63, 3) := by decide +kernel
theorem dX8_two_77 : decode cX8_two 77 = .ok (.lload 4, 2) := by decide +kernel
theorem dX8_two_79 : decode cX8_two 79 = .ok (.lload_n 2, 1) := by decide +kernel
theorem dX8_two_80 : decode cX8_two 80 = .ok (.lload 4, 2) := by decide +kernel
theorem dX8_two_82 : decode cX8_two 82 = .ok (.ladd, 1) := by decide +kernel
theorem dX8_two_83 : decode cX8_two 83 = .ok (.invokevirtual 217, 3) := by decide +kernel
theorem dX8_two_86 : decode cX8_two 86 = .ok (.iload_n 1, 1) := by decide +kernel
theorem dX8_two_87 : decode cX8_two 87 = .ok (.invokevirtual 138, 3) := by decide +kernel
theorem dX8_two_90 : decode cX8_two 90 = .ok (.lreturn, 1) := by decide +kernel
theorem dX8_made_0 : decode cX8_made 0 = .ok (.aload_n 0, 1) := by decide +kernel
theorem dX8_made_1 : decode cX8_made 1 = .ok (.getfield 12, 3) := by decide +kernel
theorem dX8_made_4 : decode cX8_made 4 = .ok (.getfield 182, 3) := by decide +kernel
theorem dX8_made_7 : decode cX8_made 7 = .ok (.ifCond .ne 6, 3) := by decide +kernel
theorem dX8_made_10 : decode cX8_made 10 = .ok (.bipush (-3), 2) := by decide +kernel
theorem dX8_made_12 : decode cX8_made 12 = .ok (.ireturn, 1) := by decide +kernel
theorem dX8_made_13 : decode cX8_made 13 = .ok (.aload_n 0, 1) := by decide +kernel
theorem dX8_made_14 : decode cX8_made 14 = .ok (.getfield 31, 3) := by decide +kernel
theorem dX8_made_17 : decode cX8_made 17 = .ok (.invokevirtual 114, 3) := by decide +kernel
theorem dX8_made_20 : decode cX8_made 20 = .ok (.aload_n 0, 1) := by decide +kernel
theorem dX8_made_21 : decode cX8_made 21 = .ok (.getfield 56, 3) := by decide +kernel
theorem dX8_made_24 : decode cX8_made 24 = .ok (.iload_n 1, 1) := by decide +kernel
theorem dX8_made_25 : decode cX8_made 25 = .ok (.putfield 224, 3) := by decide +kernel
theorem dX8_made_28 : decode cX8_made 28 = .ok (.aload_n 0, 1) := by decide +kernel
theorem dX8_made_29 : decode cX8_made 29 = .ok (.getfield 56, 3) := by decide +kernel
theorem dX8_made_32 : decode cX8_made 32 = .ok (.aload_n 0, 1) := by decide +kernel
theorem dX8_made_33 : decode cX8_made 33 = .ok (.getfield 31, 3) := by decide +kernel
theorem dX8_made_36 : decode cX8_made 36 = .ok (.invokevirtual 227, 3) := by decide +kernel
theorem dX8_made_39 : decode cX8_made 39 = .ok (.ireturn, 1) := by decide +kernel
theorem dX8_evenings_0 : decode cX8_evenings 0 = .ok (.aload_n 0, 1) := by decide +kernel
theorem dX8_evenings_1 : decode cX8_evenings 1 = .ok (.iload_n 3, 1) := by decide +kernel
theorem dX8_evenings_2 : decode cX8_evenings 2 = .ok (.invokevirtual 99, 3) := by decide +kernel
theorem dX8_evenings_5 : decode cX8_evenings 5 = .ok (.ifCond .eq 15, 3) := by decide +kernel
theorem dX8_evenings_8 : decode cX8_evenings 8 = .ok (.iload_n 2, 1) := by decide +kernel
theorem dX8_evenings_9 : decode cX8_evenings 9 = .ok (.iconst 1, 1) := by decide +kernel
theorem dX8_evenings_10 : decode cX8_evenings 10 = .ok (.if_icmp .lt 10, 3) := by decide +kernel
theorem dX8_evenings_13 : decode cX8_evenings 13 = .ok (.iload_n 2, 1) := by decide +kernel
theorem dX8_evenings_14 : decode cX8_evenings 14 = .ok (.sipush 200, 3) := by decide +kernel
theorem dX8_evenings_17 : decode cX8_evenings 17 = .ok (.if_icmp .le 6, 3) := by decide +kernel
theorem dX8_evenings_20 : decode cX8_evenings 20 = .ok (.bipush (-2), 2) := by decide +kernel
theorem dX8_evenings_22 : decode cX8_evenings 22 = .ok (.ireturn, 1) := by decide +kernel
theorem dX8_evenings_23 : decode cX8_evenings 23 = .ok (.aload_n 0, 1) := by decide +kernel
theorem dX8_evenings_24 : decode cX8_evenings 24 = .ok (.getfield 31, 3) := by decide +kernel
theorem dX8_evenings_27 : decode cX8_evenings 27 = .ok (.invokevirtual 114, 3) := by decide +kernel
theorem dX8_evenings_30 : decode cX8_evenings 30 = .ok (.aload_n 0, 1) := by decide +kernel
theorem dX8_evenings_31 : decode cX8_evenings 31 = .ok (.getfield 56, 3) := by decide +kernel
theorem dX8_evenings_34 : decode cX8_evenings 34 = .ok (.iload_n 1, 1) := by decide +kernel
theorem dX8_evenings_35 : decode cX8_evenings 35 = .ok (.putfield 224, 3) := by decide +kernel
theorem dX8_evenings_38 : decode cX8_evenings 38 = .ok (.iconst 0, 1) := by decide +kernel
theorem dX8_evenings_39 : decode cX8_evenings 39 = .ok (.istore 4, 2) := by decide +kernel
theorem dX8_evenings_41 : decode cX8_evenings 41 = .ok (.iconst 0, 1) := by decide +kernel
theorem dX8_evenings_42 : decode cX8_evenings 42 = .ok (.istore 5, 2) := by decide +kernel
theorem dX8_evenings_44 : decode cX8_evenings 44 = .ok (.iload 5, 2) := by decide +kernel
theorem dX8_evenings_46 : decode cX8_evenings 46 = .ok (.iload_n 2, 1) := by decide +kernel
theorem dX8_evenings_47 : decode cX8_evenings 47 = .ok (.if_icmp .ge 27, 3) := by decide +kernel
theorem dX8_evenings_50 : decode cX8_evenings 50 = .ok (.aload_n 0, 1) := by decide +kernel
theorem dX8_evenings_51 : decode cX8_evenings 51 = .ok (.getfield 56, 3) := by decide +kernel
theorem dX8_evenings_54 : decode cX8_evenings 54 = .ok (.aload_n 0, 1) := by decide +kernel
theorem dX8_evenings_55 : decode cX8_evenings 55 = .ok (.getfield 31, 3) := by decide +kernel
theorem dX8_evenings_58 : decode cX8_evenings 58 = .ok (.invokevirtual 227, 3) := by decide +kernel
theorem dX8_evenings_61 : decode cX8_evenings 61 = .ok (.iload_n 3, 1) := by decide +kernel
theorem dX8_evenings_62 : decode cX8_evenings 62 = .ok (.if_icmp .ne 6, 3) := by decide +kernel
theorem dX8_evenings_65 : decode cX8_evenings 65 = .ok (.iinc 4 1, 3) := by decide +kernel
theorem dX8_evenings_68 : decode cX8_evenings 68 = .ok (.iinc 5 1, 3) := by decide +kernel
theorem dX8_evenings_71 : decode cX8_evenings 71 = .ok (.goto (-27), 3) := by decide +kernel
theorem dX8_evenings_74 : decode cX8_evenings 74 = .ok (.iload 4, 2) := by decide +kernel
theorem dX8_evenings_76 : decode cX8_evenings 76 = .ok (.ireturn, 1) := by decide +kernel
theorem dX8_saw_0 : decode cX8_saw 0 = .ok (.iload_n 1, 1) := by decide +kernel
theorem dX8_saw_1 : decode cX8_saw 1 = .ok (.iconst 3, 1) := by decide +kernel
theorem dX8_saw_2 : decode cX8_saw 2 = .ok (.invokestatic 81, 3) := by decide +kernel
theorem dX8_saw_5 : decode cX8_saw 5 = .ok (.ifCond .eq 22, 3) := by decide +kernel
theorem dX8_saw_8 : decode cX8_saw 8 = .ok (.iload_n 2, 1) := by decide +kernel
theorem dX8_saw_9 : decode cX8_saw 9 = .ok (.iload_n 3, 1) := by decide +kernel
theorem dX8_saw_10 : decode cX8_saw 10 = .ok (.iload 5, 2) := by decide +kernel
theorem dX8_saw_12 : decode cX8_saw 12 = .ok (.invokestatic 231, 3) := by decide +kernel
theorem dX8_saw_15 : decode cX8_saw 15 = .ok (.ifCond .eq 12, 3) := by decide +kernel
theorem dX8_saw_18 : decode cX8_saw 18 = .ok (.iload 4, 2) := by decide +kernel
theorem dX8_saw_20 : decode cX8_saw 20 = .ok (.iconst 1, 1) := by decide +kernel
theorem dX8_saw_21 : decode cX8_saw 21 = .ok (.invokestatic 81, 3) := by decide +kernel
theorem dX8_saw_24 : decode cX8_saw 24 = .ok (.ifCond .ne 6, 3) := by decide +kernel
theorem dX8_saw_27 : decode cX8_saw 27 = .ok (.bipush (-2), 2) := by decide +kernel
theorem dX8_saw_29 : decode cX8_saw 29 = .ok (.ireturn, 1) := by decide +kernel
theorem dX8_saw_30 : decode cX8_saw 30 = .ok (.aload_n 0, 1) := by decide +kernel
theorem dX8_saw_31 : decode cX8_saw 31 = .ok (.getfield 70, 3) := by decide +kernel
theorem dX8_saw_34 : decode cX8_saw 34 = .ok (.iload_n 1, 1) := by decide +kernel
theorem dX8_saw_35 : decode cX8_saw 35 = .ok (.iload_n 2, 1) := by decide +kernel
theorem dX8_saw_36 : decode cX8_saw 36 = .ok (.iload_n 3, 1) := by decide +kernel
theorem dX8_saw_37 : decode cX8_saw 37 = .ok (.iload 4, 2) := by decide +kernel
theorem dX8_saw_39 : decode cX8_saw 39 = .ok (.iload 5, 2) := by decide +kernel
theorem dX8_saw_41 : decode cX8_saw 41 = .ok (.invokevirtual 235, 3) := by decide +kernel
theorem dX8_saw_44 : decode cX8_saw 44 = .ok (.ifCond .eq 13, 3) := by decide +kernel
theorem dX8_saw_47 : decode cX8_saw 47 = .ok (.aload_n 0, 1) := by decide +kernel
theorem dX8_saw_48 : decode cX8_saw 48 = .ok (.getfield 70, 3) := by decide +kernel
theorem dX8_saw_51 : decode cX8_saw 51 = .ok (.getfield 239, 3) := by decide +kernel
theorem dX8_saw_54 : decode cX8_saw 54 = .ok (.goto 5, 3) := by decide +kernel
theorem dX8_saw_57 : decode cX8_saw 57 = .ok (.bipush (-4), 2) := by decide +kernel
theorem dX8_saw_59 : decode cX8_saw 59 = .ok (.ireturn, 1) := by decide +kernel
theorem dX8_read_0 : decode cX8_read 0 = .ok (.iload_n 1, 1) := by decide +kernel
theorem dX8_read_1 : decode cX8_read 1 = .ok (.invokestatic 242, 3) := by decide +kernel
theorem dX8_read_4 : decode cX8_read 4 = .ok (.ifCond .eq 11, 3) := by decide +kernel
theorem dX8_read_7 : decode cX8_read 7 = .ok (.iload_n 2, 1) := by decide +kernel
theorem dX8_read_8 : decode cX8_read 8 = .ok (.iconst 3, 1) := by decide +kernel
theorem dX8_read_9 : decode cX8_read 9 = .ok (.invokestatic 81, 3) := by decide +kernel
theorem dX8_read_12 : decode cX8_read 12 = .ok (.ifCond .ne 6, 3) := by decide +kernel
theorem dX8_read_15 : decode cX8_read 15 = .ok (.bipush (-2), 2) := by decide +kernel
theorem dX8_read_17 : decode cX8_read 17 = .ok (.ireturn, 1) := by decide +kernel
theorem dX8_read_18 : decode cX8_read 18 = .ok (.aload_n 0, 1) := by decide +kernel
theorem dX8_read_19 : decode cX8_read 19 = .ok (.getfield 77, 3) := by decide +kernel
theorem dX8_read_22 : decode cX8_read 22 = .ok (.iload_n 1, 1) := by decide +kernel
theorem dX8_read_23 : decode cX8_read 23 = .ok (.invokevirtual 245, 3) := by decide +kernel
theorem dX8_read_26 : decode cX8_read 26 = .ok (.ifCond .eq 12, 3) := by decide +kernel
theorem dX8_read_29 : decode cX8_read 29 = .ok (.aload_n 0, 1) := by decide +kernel
theorem dX8_read_30 : decode cX8_read 30 = .ok (.getfield 77, 3) := by decide +kernel
theorem dX8_read_33 : decode cX8_read 33 = .ok (.iconst 1, 1) := by decide +kernel
theorem dX8_read_34 : decode cX8_read 34 = .ok (.invokevirtual 248, 3) := by decide +kernel
theorem dX8_read_37 : decode cX8_read 37 = .ok (.ireturn, 1) := by decide +kernel
theorem dX8_read_38 : decode cX8_read 38 = .ok (.iconst 0, 1) := by decide +kernel
theorem dX8_read_39 : decode cX8_read 39 = .ok (.istore_n 3, 1) := by decide +kernel
theorem dX8_read_40 : decode cX8_read 40 = .ok (.iconst 0, 1) := by decide +kernel
theorem dX8_read_41 : decode cX8_read 41 = .ok (.istore 4, 2) := by decide +kernel
theorem dX8_read_43 : decode cX8_read 43 = .ok (.iload 4, 2) := by decide +kernel
theorem dX8_read_45 : decode cX8_read 45 = .ok (.iconst 3, 1) := by decide +kernel
theorem dX8_read_46 : decode cX8_read 46 = .ok (.iadd, 1) := by decide +kernel
theorem dX8_read_47 : decode cX8_read 47 = .ok (.aload_n 0, 1) := by decide +kernel
theorem dX8_read_48 : decode cX8_read 48 = .ok (.getfield 77, 3) := by decide +kernel
theorem dX8_read_51 : decode cX8_read 51 = .ok (.getfield 251, 3) := by decide +kernel
theorem dX8_read_54 : decode cX8_read 54 = .ok (.iload_n 1, 1) := by decide +kernel
theorem dX8_read_55 : decode cX8_read 55 = .ok (.iaload, 1) := by decide +kernel
theorem dX8_read_56 : decode cX8_read 56 = .ok (.if_icmp .gt 84, 3) := by decide +kernel
theorem dX8_read_59 : decode cX8_read 59 = .ok (.aload_n 0, 1) := by decide +kernel
theorem dX8_read_60 : decode cX8_read 60 = .ok (.getfield 77, 3) := by decide +kernel
theorem dX8_read_63 : decode cX8_read 63 = .ok (.iload_n 1, 1) := by decide +kernel
theorem dX8_read_64 : decode cX8_read 64 = .ok (.iload 4, 2) := by decide +kernel
theorem dX8_read_66 : decode cX8_read 66 = .ok (.invokevirtual 254, 3) := by decide +kernel
theorem dX8_read_69 : decode cX8_read 69 = .ok (.istore 5, 2) := by decide +kernel
theorem dX8_read_71 : decode cX8_read 71 = .ok (.aload_n 0, 1) := by decide +kernel
theorem dX8_read_72 : decode cX8_read 72 = .ok (.getfield 77, 3) := by decide +kernel
theorem dX8_read_75 : decode cX8_read 75 = .ok (.iload_n 1, 1) := by decide +kernel
theorem dX8_read_76 : decode cX8_read 76 = .ok (.iload 4, 2) := by decide +kernel
theorem dX8_read_78 : decode cX8_read 78 = .ok (.iconst 1, 1) := by decide +kernel
theorem dX8_read_79 : decode cX8_read 79 = .ok (.iadd, 1) := by decide +kernel
theorem dX8_read_80 : decode cX8_read 80 = .ok (.invokevirtual 254, 3) := by decide +kernel
theorem dX8_read_83 : decode cX8_read 83 = .ok (.istore 6, 2) := by decide +kernel
theorem dX8_read_85 : decode cX8_read 85 = .ok (.aload_n 0, 1) := by decide +kernel
theorem dX8_read_86 : decode cX8_read 86 = .ok (.getfield 77, 3) := by decide +kernel
theorem dX8_read_89 : decode cX8_read 89 = .ok (.iload_n 1, 1) := by decide +kernel
theorem dX8_read_90 : decode cX8_read 90 = .ok (.iload 4, 2) := by decide +kernel
theorem dX8_read_92 : decode cX8_read 92 = .ok (.iconst 2, 1) := by decide +kernel
theorem dX8_read_93 : decode cX8_read 93 = .ok (.iadd, 1) := by decide +kernel
theorem dX8_read_94 : decode cX8_read 94 = .ok (.invokevirtual 254, 3) := by decide +kernel
theorem dX8_read_97 : decode cX8_read 97 = .ok (.istore 7, 2) := by decide +kernel
theorem dX8_read_99 : decode cX8_read 99 = .ok (.iload 5, 2) := by decide +kernel
theorem dX8_read_101 : decode cX8_read 101 = .ok (.iload 6, 2) := by decide +kernel
theorem dX8_read_103 : decode cX8_read 103 = .ok (.iload 7, 2) := by decide +kernel
theorem dX8_read_105 : decode cX8_read 105 = .ok (.invokestatic 231, 3) := by decide +kernel
theorem dX8_read_108 : decode cX8_read 108 = .ok (.ifCond .eq 21, 3) := by decide +kernel
theorem dX8_read_111 : decode cX8_read 111 = .ok (.aload_n 0, 1) := by decide +kernel
theorem dX8_read_112 : decode cX8_read 112 = .ok (.getfield 70, 3) := by decide +kernel
theorem dX8_read_115 : decode cX8_read 115 = .ok (.iload_n 2, 1) := by decide +kernel
theorem dX8_read_116 : decode cX8_read 116 = .ok (.iload 5, 2) := by decide +kernel
theorem dX8_read_118 : decode cX8_read 118 = .ok (.iload 6, 2) := by decide +kernel
theorem dX8_read_120 : decode cX8_read 120 = .ok (.iconst 0, 1) := by decide +kernel
theorem dX8_read_121 : decode cX8_read 121 = .ok (.iload 7, 2) := by decide +kernel
theorem dX8_read_123 : decode cX8_read 123 = .ok (.invokevirtual 235, 3) := by decide +kernel
theorem dX8_read_126 : decode cX8_read 126 = .ok (.ifCond .ne 5, 3) := by decide +kernel
theorem dX8_read_129 : decode cX8_read 129 = .ok (.iload_n 3, 1) := by decide +kernel
theorem dX8_read_130 : decode cX8_read 130 = .ok (.ireturn, 1) := by decide +kernel
theorem dX8_read_131 : decode cX8_read 131 = .ok (.iinc 3 1, 3) := by decide +kernel
theorem dX8_read_134 : decode cX8_read 134 = .ok (.iinc 4 3, 3) := by decide +kernel
theorem dX8_read_137 : decode cX8_read 137 = .ok (.goto (-94), 3) := by decide +kernel
theorem dX8_read_140 : decode cX8_read 140 = .ok (.iload_n 3, 1) := by decide +kernel
theorem dX8_read_141 : decode cX8_read 141 = .ok (.ireturn, 1) := by decide +kernel
theorem dX8_off_0 : decode cX8_off 0 = .ok (.iload_n 1, 1) := by decide +kernel
theorem dX8_off_1 : decode cX8_off 1 = .ok (.iconst 3, 1) := by decide +kernel
theorem dX8_off_2 : decode cX8_off 2 = .ok (.invokestatic 81, 3) := by decide +kernel
theorem dX8_off_5 : decode cX8_off 5 = .ok (.ifCond .eq 12, 3) := by decide +kernel
theorem dX8_off_8 : decode cX8_off 8 = .ok (.iload_n 2, 1) := by decide +kernel
theorem dX8_off_9 : decode cX8_off 9 = .ok (.bipush 9, 2) := by decide +kernel
theorem dX8_off_11 : decode cX8_off 11 = .ok (.invokestatic 81, 3) := by decide +kernel
theorem dX8_off_14 : decode cX8_off 14 = .ok (.ifCond .ne 6, 3) := by decide +kernel
theorem dX8_off_17 : decode cX8_off 17 = .ok (.bipush (-2), 2) := by decide +kernel
theorem dX8_off_19 : decode cX8_off 19 = .ok (.ireturn, 1) := by decide +kernel
theorem dX8_off_20 : decode cX8_off 20 = .ok (.aload_n 0, 1) := by decide +kernel
theorem dX8_off_21 : decode cX8_off 21 = .ok (.getfield 70, 3) := by decide +kernel
theorem dX8_off_24 : decode cX8_off 24 = .ok (.iload_n 1, 1) := by decide +kernel
theorem dX8_off_25 : decode cX8_off 25 = .ok (.iload_n 2, 1) := by decide +kernel
theorem dX8_off_26 : decode cX8_off 26 = .ok (.invokevirtual 257, 3) := by decide +kernel
theorem dX8_off_29 : decode cX8_off 29 = .ok (.ireturn, 1) := by decide +kernel
theorem dX8_guess_0 : decode cX8_guess 0 = .ok (.iload_n 1, 1) := by decide +kernel
theorem dX8_guess_1 : decode cX8_guess 1 = .ok (.iconst 3, 1) := by decide +kernel
theorem dX8_guess_2 : decode cX8_guess 2 = .ok (.invokestatic 81, 3) := by decide +kernel
theorem dX8_guess_5 : decode cX8_guess 5 = .ok (.ifCond .ne 6, 3) := by decide +kernel
theorem dX8_guess_8 : decode cX8_guess 8 = .ok (.bipush (-2), 2) := by decide +kernel
theorem dX8_guess_10 : decode cX8_guess 10 = .ok (.ireturn, 1) := by decide +kernel
theorem dX8_guess_11 : decode cX8_guess 11 = .ok (.aload_n 0, 1) := by decide +kernel
theorem dX8_guess_12 : decode cX8_guess 12 = .ok (.getfield 70, 3) := by decide +kernel
theorem dX8_guess_15 : decode cX8_guess 15 = .ok (.iload_n 1, 1) := by decide +kernel
theorem dX8_guess_16 : decode cX8_guess 16 = .ok (.invokevirtual 260, 3) := by decide +kernel
theorem dX8_guess_19 : decode cX8_guess 19 = .ok (.ireturn, 1) := by decide +kernel
theorem dX8_laughs_0 : decode cX8_laughs 0 = .ok (.iload_n 1, 1) := by decide +kernel
theorem dX8_laughs_1 : decode cX8_laughs 1 = .ok (.iconst 3, 1) := by decide +kernel
theorem dX8_laughs_2 : decode cX8_laughs 2 = .ok (.invokestatic 81, 3) := by decide +kernel
theorem dX8_laughs_5 : decode cX8_laughs 5 = .ok (.ifCond .eq 19, 3) := by decide +kernel
theorem dX8_laughs_8 : decode cX8_laughs 8 = .ok (.iload_n 2, 1) := by decide +kernel
theorem dX8_laughs_9 : decode cX8_laughs 9 = .ok (.bipush 9, 2) := by decide +kernel
theorem dX8_laughs_11 : decode cX8_laughs 11 = .ok (.invokestatic 81, 3) := by decide +kernel
theorem dX8_laughs_14 : decode cX8_laughs 14 = .ok (.ifCond .eq 10, 3) := by decide +kernel
theorem dX8_laughs_17 : decode cX8_laughs 17 = .ok (.iload_n 3, 1) := by decide +kernel
theorem dX8_laughs_18 : decode cX8_laughs 18 = .ok (.invokestatic 124, 3) := by decide +kernel
theorem dX8_laughs_21 : decode cX8_laughs 21 = .ok (.ifCond .ne 6, 3) := by decide +kernel
theorem dX8_laughs_24 : decode cX8_laughs 24 = .ok (.bipush (-2), 2) := by decide +kernel
theorem dX8_laughs_26 : decode cX8_laughs 26 = .ok (.ireturn, 1) := by decide +kernel
theorem dX8_laughs_27 : decode cX8_laughs 27 = .ok (.aload_n 0, 1) := by decide +kernel
theorem dX8_laughs_28 : decode cX8_laughs 28 = .ok (.getfield 70, 3) := by decide +kernel
theorem dX8_laughs_31 : decode cX8_laughs 31 = .ok (.iload_n 1, 1) := by decide +kernel
theorem dX8_laughs_32 : decode cX8_laughs 32 = .ok (.iload_n 2, 1) := by decide +kernel
theorem dX8_laughs_33 : decode cX8_laughs 33 = .ok (.iload_n 3, 1) := by decide +kernel
theorem dX8_laughs_34 : decode cX8_laughs 34 = .ok (.iconst 1, 1) := by decide +kernel
theorem dX8_laughs_35 : decode cX8_laughs 35 = .ok (.if_icmp .ne 7, 3) := by decide +kernel
theorem dX8_laughs_38 : decode cX8_laughs 38 = .ok (.iconst 1, 1) := by decide +kernel
theorem dX8_laughs_39 : decode cX8_laughs 39 = .ok (.goto 4, 3) := by decide +kernel
theorem dX8_laughs_42 : decode cX8_laughs 42 = .ok (.iconst 0, 1) := by decide +kernel
theorem dX8_laughs_43 : decode cX8_laughs 43 = .ok (.invokevirtual 263, 3) := by decide +kernel
theorem dX8_laughs_46 : decode cX8_laughs 46 = .ok (.ireturn, 1) := by decide +kernel
theorem dX8_sheet_0 : decode cX8_sheet 0 = .ok (.iload_n 1, 1) := by decide +kernel
theorem dX8_sheet_1 : decode cX8_sheet 1 = .ok (.invokestatic 242, 3) := by decide +kernel
theorem dX8_sheet_4 : decode cX8_sheet 4 = .ok (.ifCond .eq 16, 3) := by decide +kernel
theorem dX8_sheet_7 : decode cX8_sheet 7 = .ok (.iload_n 2, 1) := by decide +kernel
theorem dX8_sheet_8 : decode cX8_sheet 8 = .ok (.invokestatic 267, 3) := by decide +kernel
theorem dX8_sheet_11 : decode cX8_sheet 11 = .ok (.ifCond .eq 9, 3) := by decide +kernel
theorem dX8_sheet_14 : decode cX8_sheet 14 = .ok (.iload_n 3, 1) := by decide +kernel
theorem dX8_sheet_15 : decode cX8_sheet 15 = .ok (.bipush 60, 2) := by decide +kernel
theorem dX8_sheet_17 : decode cX8_sheet 17 = .ok (.if_icmp .le 6, 3) := by decide +kernel
theorem dX8_sheet_20 : decode cX8_sheet 20 = .ok (.bipush (-2), 2) := by decide +kernel
theorem dX8_sheet_22 : decode cX8_sheet 22 = .ok (.ireturn, 1) := by decide +kernel
theorem dX8_sheet_23 : decode cX8_sheet 23 = .ok (.iload_n 3, 1) := by decide +kernel
theorem dX8_sheet_24 : decode cX8_sheet 24 = .ok (.ifCond .ge 12, 3) := by decide +kernel
theorem dX8_sheet_27 : decode cX8_sheet 27 = .ok (.aload_n 0, 1) := by decide +kernel
theorem dX8_sheet_28 : decode cX8_sheet 28 = .ok (.getfield 77, 3) := by decide +kernel
theorem dX8_sheet_31 : decode cX8_sheet 31 = .ok (.iconst 5, 1) := by decide +kernel
theorem dX8_sheet_32 : decode cX8_sheet 32 = .ok (.invokevirtual 248, 3) := by decide +kernel
theorem dX8_sheet_35 : decode cX8_sheet 35 = .ok (.ireturn, 1) := by decide +kernel
theorem dX8_sheet_36 : decode cX8_sheet 36 = .ok (.aload_n 0, 1) := by decide +kernel
theorem dX8_sheet_37 : decode cX8_sheet 37 = .ok (.getfield 77, 3) := by decide +kernel
theorem dX8_sheet_40 : decode cX8_sheet 40 = .ok (.iload_n 1, 1) := by decide +kernel
theorem dX8_sheet_41 : decode cX8_sheet 41 = .ok (.iload_n 2, 1) := by decide +kernel
theorem dX8_sheet_42 : decode cX8_sheet 42 = .ok (.iload_n 3, 1) := by decide +kernel
theorem dX8_sheet_43 : decode cX8_sheet 43 = .ok (.invokevirtual 270, 3) := by decide +kernel
theorem dX8_sheet_46 : decode cX8_sheet 46 = .ok (.iload_n 3, 1) := by decide +kernel
theorem dX8_sheet_47 : decode cX8_sheet 47 = .ok (.ireturn, 1) := by decide +kernel
theorem dX8_lose_0 : decode cX8_lose 0 = .ok (.iload_n 1, 1) := by decide +kernel
theorem dX8_lose_1 : decode cX8_lose 1 = .ok (.invokestatic 242, 3) := by decide +kernel
theorem dX8_lose_4 : decode cX8_lose 4 = .ok (.ifCond .ne 6, 3) := by decide +kernel
theorem dX8_lose_7 : decode cX8_lose 7 = .ok (.bipush (-2), 2) := by decide +kernel
theorem dX8_lose_9 : decode cX8_lose 9 = .ok (.ireturn, 1) := by decide +kernel
theorem dX8_lose_10 : decode cX8_lose 10 = .ok (.aload_n 0, 1) := by decide +kernel
theorem dX8_lose_11 : decode cX8_lose 11 = .ok (.getfield 77, 3) := by decide +kernel
theorem dX8_lose_14 : decode cX8_lose 14 = .ok (.iload_n 1, 1) := by decide +kernel
theorem dX8_lose_15 : decode cX8_lose 15 = .ok (.invokevirtual 245, 3) := by decide +kernel
theorem dX8_lose_18 : decode cX8_lose 18 = .ok (.ifCond .eq 12, 3) := by decide +kernel
theorem dX8_lose_21 : decode cX8_lose 21 = .ok (.aload_n 0, 1) := by decide +kernel
theorem dX8_lose_22 : decode cX8_lose 22 = .ok (.getfield 77, 3) := by decide +kernel
theorem dX8_lose_25 : decode cX8_lose 25 = .ok (.iconst 1, 1) := by decide +kernel
theorem dX8_lose_26 : decode cX8_lose 26 = .ok (.invokevirtual 248, 3) := by decide +kernel
theorem dX8_lose_29 : decode cX8_lose 29 = .ok (.ireturn, 1) := by decide +kernel
theorem dX8_lose_30 : decode cX8_lose 30 = .ok (.aload_n 0, 1) := by decide +kernel
theorem dX8_lose_31 : decode cX8_lose 31 = .ok (.getfield 77, 3) := by decide +kernel
theorem dX8_lose_34 : decode cX8_lose 34 = .ok (.iload_n 1, 1) := by decide +kernel
theorem dX8_lose_35 : decode cX8_lose 35 = .ok (.invokevirtual 274, 3) := by decide +kernel
theorem dX8_lose_38 : decode cX8_lose 38 = .ok (.ireturn, 1) := by decide +kernel
theorem dX8_lay_0 : decode cX8_lay 0 = .ok (.iload_n 1, 1) := by decide +kernel
theorem dX8_lay_1 : decode cX8_lay 1 = .ok (.invokestatic 242, 3) := by decide +kernel
theorem dX8_lay_4 : decode cX8_lay 4 = .ok (.ifCond .eq 10, 3) := by decide +kernel
theorem dX8_lay_7 : decode cX8_lay 7 = .ok (.iload_n 2, 1) := by decide +kernel
theorem dX8_lay_8 : decode cX8_lay 8 = .ok (.invokestatic 267, 3) := by decide +kernel
theorem dX8_lay_11 : decode cX8_lay 11 = .ok (.ifCond .ne 6, 3) := by decide +kernel
theorem dX8_lay_14 : decode cX8_lay 14 = .ok (.bipush (-2), 2) := by decide +kernel
theorem dX8_lay_16 : decode cX8_lay 16 = .ok (.ireturn, 1) := by decide +kernel
theorem dX8_lay_17 : decode cX8_lay 17 = .ok (.aload_n 0, 1) := by decide +kernel
theorem dX8_lay_18 : decode cX8_lay 18 = .ok (.getfield 77, 3) := by decide +kernel
theorem dX8_lay_21 : decode cX8_lay 21 = .ok (.iload_n 1, 1) := by decide +kernel
theorem dX8_lay_22 : decode cX8_lay 22 = .ok (.iload_n 2, 1) := by decide +kernel
theorem dX8_lay_23 : decode cX8_lay 23 = .ok (.iload_n 3, 1) := by decide +kernel
theorem dX8_lay_24 : decode cX8_lay 24 = .ok (.invokevirtual 277, 3) := by decide +kernel
theorem dX8_lay_27 : decode cX8_lay 27 = .ok (.istore 5, 2) := by decide +kernel
theorem dX8_lay_29 : decode cX8_lay 29 = .ok (.iload 5, 2) := by decide +kernel
theorem dX8_lay_31 : decode cX8_lay 31 = .ok (.ifCond .eq 13, 3) := by decide +kernel
theorem dX8_lay_34 : decode cX8_lay 34 = .ok (.aload_n 0, 1) := by decide +kernel
theorem dX8_lay_35 : decode cX8_lay 35 = .ok (.getfield 77, 3) := by decide +kernel
theorem dX8_lay_38 : decode cX8_lay 38 = .ok (.iload 5, 2) := by decide +kernel
theorem dX8_lay_40 : decode cX8_lay 40 = .ok (.invokevirtual 248, 3) := by decide +kernel
theorem dX8_lay_43 : decode cX8_lay 43 = .ok (.ireturn, 1) := by decide +kernel
theorem dX8_lay_44 : decode cX8_lay 44 = .ok (.aload_n 0, 1) := by decide +kernel
theorem dX8_lay_45 : decode cX8_lay 45 = .ok (.getfield 77, 3) := by decide +kernel
theorem dX8_lay_48 : decode cX8_lay 48 = .ok (.iload_n 1, 1) := by decide +kernel
theorem dX8_lay_49 : decode cX8_lay 49 = .ok (.iload_n 3, 1) := by decide +kernel
theorem dX8_lay_50 : decode cX8_lay 50 = .ok (.iload 4, 2) := by decide +kernel
theorem dX8_lay_52 : decode cX8_lay 52 = .ok (.invokevirtual 281, 3) := by decide +kernel
theorem dX8_lay_55 : decode cX8_lay 55 = .ok (.iconst 1, 1) := by decide +kernel
theorem dX8_lay_56 : decode cX8_lay 56 = .ok (.ireturn, 1) := by decide +kernel
theorem dX8_get_0 : decode cX8_get 0 = .ok (.iload_n 1, 1) := by decide +kernel
theorem dX8_get_1 : decode cX8_get 1 = .ok (.invokestatic 242, 3) := by decide +kernel
theorem dX8_get_4 : decode cX8_get 4 = .ok (.ifCond .eq 10, 3) := by decide +kernel
theorem dX8_get_7 : decode cX8_get 7 = .ok (.iload_n 2, 1) := by decide +kernel
theorem dX8_get_8 : decode cX8_get 8 = .ok (.invokestatic 267, 3) := by decide +kernel
theorem dX8_get_11 : decode cX8_get 11 = .ok (.ifCond .ne 7, 3) := by decide +kernel
theorem dX8_get_14 : decode cX8_get 14 = .ok (.ldc_w 283, 3) := by decide +kernel
theorem dX8_get_17 : decode cX8_get 17 = .ok (.ireturn, 1) := by decide +kernel
theorem dX8_get_18 : decode cX8_get 18 = .ok (.aload_n 0, 1) := by decide +kernel
theorem dX8_get_19 : decode cX8_get 19 = .ok (.getfield 77, 3) := by decide +kernel
theorem dX8_get_22 : decode cX8_get 22 = .ok (.iload_n 1, 1) := by decide +kernel
theorem dX8_get_23 : decode cX8_get 23 = .ok (.iload_n 2, 1) := by decide +kernel
theorem dX8_get_24 : decode cX8_get 24 = .ok (.iload_n 3, 1) := by decide +kernel
theorem dX8_get_25 : decode cX8_get 25 = .ok (.invokevirtual 277, 3) := by decide +kernel
theorem dX8_get_28 : decode cX8_get 28 = .ok (.istore 4, 2) := by decide +kernel
theorem dX8_get_30 : decode cX8_get 30 = .ok (.iload 4, 2) := by decide +kernel
theorem dX8_get_32 : decode cX8_get 32 = .ok (.ifCond .eq 17, 3) := by decide +kernel
theorem dX8_get_35 : decode cX8_get 35 = .ok (.aload_n 0, 1) := by decide +kernel
theorem dX8_get_36 : decode cX8_get 36 = .ok (.getfield 77, 3) := by decide +kernel
theorem dX8_get_39 : decode cX8_get 39 = .ok (.iload 4, 2) := by decide +kernel
theorem dX8_get_41 : decode cX8_get 41 = .ok (.invokevirtual 248, 3) := by decide +kernel
theorem dX8_get_44 : decode cX8_get 44 = .ok (.pop, 1) := by decide +kernel
theorem dX8_get_45 : decode cX8_get 45 = .ok (.ldc_w 283, 3) := by decide +kernel
theorem dX8_get_48 : decode cX8_get 48 = .ok (.ireturn, 1) := by decide +kernel
theorem dX8_get_49 : decode cX8_get 49 = .ok (.aload_n 0, 1) := by decide +kernel
theorem dX8_get_50 : decode cX8_get 50 = .ok (.getfield 77, 3) := by decide +kernel
theorem dX8_get_53 : decode cX8_get 53 = .ok (.iload_n 1, 1) := by decide +kernel
theorem dX8_get_54 : decode cX8_get 54 = .ok (.iload_n 3, 1) := by decide +kernel
theorem dX8_get_55 : decode cX8_get 55 = .ok (.invokevirtual 254, 3) := by decide +kernel
theorem dX8_get_58 : decode cX8_get 58 = .ok (.ireturn, 1) := by decide +kernel
theorem dX8_copy_0 : decode cX8_copy 0 = .ok (.iload_n 1, 1) := by decide +kernel
theorem dX8_copy_1 : decode cX8_copy 1 = .ok (.invokestatic 242, 3) := by decide +kernel
theorem dX8_copy_4 : decode cX8_copy 4 = .ok (.ifCond .eq 10, 3) := by decide +kernel
theorem dX8_copy_7 : decode cX8_copy 7 = .ok (.iload_n 3, 1) := by decide +kernel
theorem dX8_copy_8 : decode cX8_copy 8 = .ok (.invokestatic 242, 3) := by decide +kernel
theorem dX8_copy_11 : decode cX8_copy 11 = .ok (.ifCond .ne 6, 3) := by decide +kernel
theorem dX8_copy_14 : decode cX8_copy 14 = .ok (.bipush (-2), 2) := by decide +kernel
theorem dX8_copy_16 : decode cX8_copy 16 = .ok (.ireturn, 1) := by decide +kernel
theorem dX8_copy_17 : decode cX8_copy 17 = .ok (.aload_n 0, 1) := by decide +kernel
theorem dX8_copy_18 : decode cX8_copy 18 = .ok (.getfield 77, 3) := by decide +kernel
theorem dX8_copy_21 : decode cX8_copy 21 = .ok (.iload_n 1, 1) := by decide +kernel
theorem dX8_copy_22 : decode cX8_copy 22 = .ok (.invokevirtual 245, 3) := by decide +kernel
theorem dX8_copy_25 : decode cX8_copy 25 = .ok (.ifCond .ne 14, 3) := by decide +kernel
theorem dX8_copy_28 : decode cX8_copy 28 = .ok (.aload_n 0, 1) := by decide +kernel
theorem dX8_copy_29 : decode cX8_copy 29 = .ok (.getfield 77, 3) := by decide +kernel
theorem dX8_copy_32 : decode cX8_copy 32 = .ok (.iload_n 3, 1) := by decide +kernel
theorem dX8_copy_33 : decode cX8_copy 33 = .ok (.invokevirtual 245, 3) := by decide +kernel
theorem dX8_copy_36 : decode cX8_copy 36 = .ok (.ifCond .eq 12, 3) := by decide +kernel
theorem dX8_copy_39 : decode cX8_copy 39 = .ok (.aload_n 0, 1) := by decide +kernel
theorem dX8_copy_40 : decode cX8_copy 40 = .ok (.getfield 77, 3) := by decide +kernel
theorem dX8_copy_43 : decode cX8_copy 43 = .ok (.iconst 1, 1) := by decide +kernel
theorem dX8_copy_44 : decode cX8_copy 44 = .ok (.invokevirtual 248, 3) := by decide +kernel
theorem dX8_copy_47 : decode cX8_copy 47 = .ok (.ireturn, 1) := by decide +kernel
theorem dX8_copy_48 : decode cX8_copy 48 = .ok (.aload_n 0, 1) := by decide +kernel
theorem dX8_copy_49 : decode cX8_copy 49 = .ok (.getfield 77, 3) := by decide +kernel
theorem dX8_copy_52 : decode cX8_copy 52 = .ok (.getfield 284, 3) := by decide +kernel
theorem dX8_copy_55 : decode cX8_copy 55 = .ok (.iload_n 1, 1) := by decide +kernel
theorem dX8_copy_56 : decode cX8_copy 56 = .ok (.iaload, 1) := by decide +kernel
theorem dX8_copy_57 : decode cX8_copy 57 = .ok (.aload_n 0, 1) := by decide +kernel
theorem dX8_copy_58 : decode cX8_copy 58 = .ok (.getfield 77, 3) := by decide +kernel
theorem dX8_copy_61 : decode cX8_copy 61 = .ok (.getfield 284, 3) := by decide +kernel
theorem dX8_copy_64 : decode cX8_copy 64 = .ok (.iload_n 3, 1) := by decide +kernel
theorem dX8_copy_65 : decode cX8_copy 65 = .ok (.iaload, 1) := by decide +kernel
theorem dX8_copy_66 : decode cX8_copy 66 = .ok (.if_icmp .eq 12, 3) := by decide +kernel
theorem dX8_copy_69 : decode cX8_copy 69 = .ok (.aload_n 0, 1) := by decide +kernel
theorem dX8_copy_70 : decode cX8_copy 70 = .ok (.getfield 77, 3) := by decide +kernel
theorem dX8_copy_73 : decode cX8_copy 73 = .ok (.iconst 4, 1) := by decide +kernel
theorem dX8_copy_74 : decode cX8_copy 74 = .ok (.invokevirtual 248, 3) := by decide +kernel
theorem dX8_copy_77 : decode cX8_copy 77 = .ok (.ireturn, 1) := by decide +kernel
theorem dX8_copy_78 : decode cX8_copy 78 = .ok (.aload_n 0, 1) := by decide +kernel
theorem dX8_copy_79 : decode cX8_copy 79 = .ok (.getfield 77, 3) := by decide +kernel
theorem dX8_copy_82 : decode cX8_copy 82 = .ok (.iload_n 1, 1) := by decide +kernel
theorem dX8_copy_83 : decode cX8_copy 83 = .ok (.iload_n 2, 1) := by decide +kernel
theorem dX8_copy_84 : decode cX8_copy 84 = .ok (.iload 5, 2) := by decide +kernel
theorem dX8_copy_86 : decode cX8_copy 86 = .ok (.invokevirtual 287, 3) := by decide +kernel
theorem dX8_copy_89 : decode cX8_copy 89 = .ok (.ifCond .eq 18, 3) := by decide +kernel
theorem dX8_copy_92 : decode cX8_copy 92 = .ok (.aload_n 0, 1) := by decide +kernel
theorem dX8_copy_93 : decode cX8_copy 93 = .ok (.getfield 77, 3) := by decide +kernel
theorem dX8_copy_96 : decode cX8_copy 96 = .ok (.iload_n 3, 1) := by decide +kernel
theorem dX8_copy_97 : decode cX8_copy 97 = .ok (.iload 4, 2) := by decide +kernel
theorem dX8_copy_99 : decode cX8_copy 99 = .ok (.iload 5, 2) := by decide +kernel
theorem dX8_copy_101 : decode cX8_copy 101 = .ok (.invokevirtual 287, 3) := by decide +kernel
theorem dX8_copy_104 : decode cX8_copy 104 = .ok (.ifCond .ne 12, 3) := by decide +kernel
theorem dX8_copy_107 : decode cX8_copy 107 = .ok (.aload_n 0, 1) := by decide +kernel
theorem dX8_copy_108 : decode cX8_copy 108 = .ok (.getfield 77, 3) := by decide +kernel
theorem dX8_copy_111 : decode cX8_copy 111 = .ok (.iconst 2, 1) := by decide +kernel
theorem dX8_copy_112 : decode cX8_copy 112 = .ok (.invokevirtual 248, 3) := by decide +kernel
theorem dX8_copy_115 : decode cX8_copy 115 = .ok (.ireturn, 1) := by decide +kernel
theorem dX8_copy_116 : decode cX8_copy 116 = .ok (.aload_n 0, 1) := by decide +kernel
theorem dX8_copy_117 : decode cX8_copy 117 = .ok (.getfield 77, 3) := by decide +kernel
theorem dX8_copy_120 : decode cX8_copy 120 = .ok (.iload_n 1, 1) := by decide +kernel
theorem dX8_copy_121 : decode cX8_copy 121 = .ok (.iload_n 2, 1) := by decide +kernel
theorem dX8_copy_122 : decode cX8_copy 122 = .ok (.iload_n 3, 1) := by decide +kernel
theorem dX8_copy_123 : decode cX8_copy 123 = .ok (.iload 4, 2) := by decide +kernel
theorem dX8_copy_125 : decode cX8_copy 125 = .ok (.iload 5, 2) := by decide +kernel
theorem dX8_copy_127 : decode cX8_copy 127 = .ok (.invokevirtual 290, 3) := by decide +kernel
theorem dX8_copy_130 : decode cX8_copy 130 = .ok (.iconst 1, 1) := by decide +kernel
theorem dX8_copy_131 : decode cX8_copy 131 = .ok (.ireturn, 1) := by decide +kernel
theorem dX8_write_0 : decode cX8_write 0 = .ok (.aload_n 0, 1) := by decide +kernel
theorem dX8_write_1 : decode cX8_write 1 = .ok (.iload_n 1, 1) := by decide +kernel
theorem dX8_write_2 : decode cX8_write 2 = .ok (.invokevirtual 99, 3) := by decide +kernel
theorem dX8_write_5 : decode cX8_write 5 = .ok (.ifCond .eq 10, 3) := by decide +kernel
theorem dX8_write_8 : decode cX8_write 8 = .ok (.iload_n 2, 1) := by decide +kernel
theorem dX8_write_9 : decode cX8_write 9 = .ok (.invokestatic 242, 3) := by decide +kernel
theorem dX8_write_12 : decode cX8_write 12 = .ok (.ifCond .ne 6, 3) := by decide +kernel
theorem dX8_write_15 : decode cX8_write 15 = .ok (.bipush (-2), 2) := by decide +kernel
theorem dX8_write_17 : decode cX8_write 17 = .ok (.ireturn, 1) := by decide +kernel
theorem dX8_write_18 : decode cX8_write 18 = .ok (.aload_n 0, 1) := by decide +kernel
theorem dX8_write_19 : decode cX8_write 19 = .ok (.getfield 77, 3) := by decide +kernel
theorem dX8_write_22 : decode cX8_write 22 = .ok (.iload_n 2, 1) := by decide +kernel
theorem dX8_write_23 : decode cX8_write 23 = .ok (.invokevirtual 245, 3) := by decide +kernel
theorem dX8_write_26 : decode cX8_write 26 = .ok (.ifCond .eq 12, 3) := by decide +kernel
theorem dX8_write_29 : decode cX8_write 29 = .ok (.aload_n 0, 1) := by decide +kernel
theorem dX8_write_30 : decode cX8_write 30 = .ok (.getfield 77, 3) := by decide +kernel
theorem dX8_write_33 : decode cX8_write 33 = .ok (.iconst 1, 1) := by decide +kernel
theorem dX8_write_34 : decode cX8_write 34 = .ok (.invokevirtual 248, 3) := by decide +kernel
theorem dX8_write_37 : decode cX8_write 37 = .ok (.ireturn, 1) := by decide +kernel
theorem dX8_write_38 : decode cX8_write 38 = .ok (.aload_n 0, 1) := by decide +kernel
theorem dX8_write_39 : decode cX8_write 39 = .ok (.getfield 31, 3) := by decide +kernel
theorem dX8_write_42 : decode cX8_write 42 = .ok (.invokevirtual 114, 3) := by decide +kernel
theorem dX8_write_45 : decode cX8_write 45 = .ok (.aload_n 0, 1) := by decide +kernel
theorem dX8_write_46 : decode cX8_write 46 = .ok (.getfield 77, 3) := by decide +kernel
theorem dX8_write_49 : decode cX8_write 49 = .ok (.getfield 251, 3) := by decide +kernel
theorem dX8_write_52 : decode cX8_write 52 = .ok (.iload_n 2, 1) := by decide +kernel
theorem dX8_write_53 : decode cX8_write 53 = .ok (.iaload, 1) := by decide +kernel
theorem dX8_write_54 : decode cX8_write 54 = .ok (.aload_n 0, 1) := by decide +kernel
theorem dX8_write_55 : decode cX8_write 55 = .ok (.getfield 12, 3) := by decide +kernel
theorem dX8_write_58 : decode cX8_write 58 = .ok (.getfield 121, 3) := by decide +kernel
theorem dX8_write_61 : decode cX8_write 61 = .ok (.invokestatic 204, 3) := by decide +kernel
theorem dX8_write_64 : decode cX8_write 64 = .ok (.istore_n 3, 1) := by decide +kernel
theorem dX8_write_65 : decode cX8_write 65 = .ok (.iconst 0, 1) := by decide +kernel
theorem dX8_write_66 : decode cX8_write 66 = .ok (.istore 4, 2) := by decide +kernel
theorem dX8_write_68 : decode cX8_write 68 = .ok (.iload 4, 2) := by decide +kernel
theorem dX8_write_70 : decode cX8_write 70 = .ok (.iload_n 3, 1) := by decide +kernel
theorem dX8_write_71 : decode cX8_write 71 = .ok (.if_icmp .ge 29, 3) := by decide +kernel
theorem dX8_write_74 : decode cX8_write 74 = .ok (.aload_n 0, 1) := by decide +kernel
theorem dX8_write_75 : decode cX8_write 75 = .ok (.getfield 77, 3) := by decide +kernel
theorem dX8_write_78 : decode cX8_write 78 = .ok (.iload_n 2, 1) := by decide +kernel
theorem dX8_write_79 : decode cX8_write 79 = .ok (.iload 4, 2) := by decide +kernel
theorem dX8_write_81 : decode cX8_write 81 = .ok (.aload_n 0, 1) := by decide +kernel
theorem dX8_write_82 : decode cX8_write 82 = .ok (.getfield 31, 3) := by decide +kernel
theorem dX8_write_85 : decode cX8_write 85 = .ok (.iload_n 1, 1) := by decide +kernel
theorem dX8_write_86 : decode cX8_write 86 = .ok (.iload 4, 2) := by decide +kernel
theorem dX8_write_88 : decode cX8_write 88 = .ok (.invokevirtual 117, 3) := by decide +kernel
theorem dX8_write_91 : decode cX8_write 91 = .ok (.invokevirtual 281, 3) := by decide +kernel
theorem dX8_write_94 : decode cX8_write 94 = .ok (.iinc 4 1, 3) := by decide +kernel
theorem dX8_write_97 : decode cX8_write 97 = .ok (.goto (-29), 3) := by decide +kernel
theorem dX8_write_100 : decode cX8_write 100 = .ok (.iload_n 3, 1) := by decide +kernel
theorem dX8_write_101 : decode cX8_write 101 = .ok (.ireturn, 1) := by decide +kernel
theorem dX8_count_0 : decode cX8_count 0 = .ok (.iload_n 1, 1) := by decide +kernel
theorem dX8_count_1 : decode cX8_count 1 = .ok (.tableswitch 120 0 8 #[51, 59, 67, 75, 83, 91, 99, 104, 112], 51) := by decide +kernel
theorem dX8_count_52 : decode cX8_count 52 = .ok (.aload_n 0, 1) := by decide +kernel
theorem dX8_count_53 : decode cX8_count 53 = .ok (.getfield 12, 3) := by decide +kernel
theorem dX8_count_56 : decode cX8_count 56 = .ok (.getfield 182, 3) := by decide +kernel
theorem dX8_count_59 : decode cX8_count 59 = .ok (.ireturn, 1) := by decide +kernel
theorem dX8_count_60 : decode cX8_count 60 = .ok (.aload_n 0, 1) := by decide +kernel
theorem dX8_count_61 : decode cX8_count 61 = .ok (.getfield 12, 3) := by decide +kernel
theorem dX8_count_64 : decode cX8_count 64 = .ok (.getfield 121, 3) := by decide +kernel
theorem dX8_count_67 : decode cX8_count 67 = .ok (.ireturn, 1) := by decide +kernel
theorem dX8_count_68 : decode cX8_count 68 = .ok (.aload_n 0, 1) := by decide +kernel
theorem dX8_count_69 : decode cX8_count 69 = .ok (.getfield 12, 3) := by decide +kernel
theorem dX8_count_72 : decode cX8_count 72 = .ok (.getfield 89, 3) := by decide +kernel
theorem dX8_count_75 : decode cX8_count 75 = .ok (.ireturn, 1) := by decide +kernel
theorem dX8_count_76 : decode cX8_count 76 = .ok (.aload_n 0, 1) := by decide +kernel
theorem dX8_count_77 : decode cX8_count 77 = .ok (.getfield 12, 3) := by decide +kernel
theorem dX8_count_80 : decode cX8_count 80 = .ok (.invokevirtual 294, 3) := by decide +kernel
theorem dX8_count_83 : decode cX8_count 83 = .ok (.ireturn, 1) := by decide +kernel
theorem dX8_count_84 : decode cX8_count 84 = .ok (.aload_n 0, 1) := by decide +kernel
theorem dX8_count_85 : decode cX8_count 85 = .ok (.getfield 70, 3) := by decide +kernel
theorem dX8_count_88 : decode cX8_count 88 = .ok (.getfield 239, 3) := by decide +kernel
theorem dX8_count_91 : decode cX8_count 91 = .ok (.ireturn, 1) := by decide +kernel
theorem dX8_count_92 : decode cX8_count 92 = .ok (.aload_n 0, 1) := by decide +kernel
theorem dX8_count_93 : decode cX8_count 93 = .ok (.getfield 70, 3) := by decide +kernel
theorem dX8_count_96 : decode cX8_count 96 = .ok (.invokevirtual 297, 3) := by decide +kernel
theorem dX8_count_99 : decode cX8_count 99 = .ok (.ireturn, 1) := by decide +kernel
theorem dX8_count_100 : decode cX8_count 100 = .ok (.aload_n 0, 1) := by decide +kernel
theorem dX8_count_101 : decode cX8_count 101 = .ok (.invokevirtual 200, 3) := by decide +kernel
theorem dX8_count_104 : decode cX8_count 104 = .ok (.ireturn, 1) := by decide +kernel
theorem dX8_count_105 : decode cX8_count 105 = .ok (.aload_n 0, 1) := by decide +kernel
theorem dX8_count_106 : decode cX8_count 106 = .ok (.getfield 12, 3) := by decide +kernel
theorem dX8_count_109 : decode cX8_count 109 = .ok (.invokevirtual 300, 3) := by decide +kernel
theorem dX8_count_112 : decode cX8_count 112 = .ok (.ireturn, 1) := by decide +kernel
theorem dX8_count_113 : decode cX8_count 113 = .ok (.aload_n 0, 1) := by decide +kernel
theorem dX8_count_114 : decode cX8_count 114 = .ok (.getfield 77, 3) := by decide +kernel
theorem dX8_count_117 : decode cX8_count 117 = .ok (.getfield 303, 3) := by decide +kernel
theorem dX8_count_120 : decode cX8_count 120 = .ok (.ireturn, 1) := by decide +kernel
theorem dX8_count_121 : decode cX8_count 121 = .ok (.bipush (-2), 2) := by decide +kernel
theorem dX8_count_123 : decode cX8_count 123 = .ok (.ireturn, 1) := by decide +kernel
theorem dX8_digest_0 : decode cX8_digest 0 = .ok (.ldc2_w 306, 3) := by decide +kernel
theorem dX8_digest_3 : decode cX8_digest 3 = .ok (.lstore_n 1, 1) := by decide +kernel
theorem dX8_digest_4 : decode cX8_digest 4 = .ok (.iconst 0, 1) := by decide +kernel
theorem dX8_digest_5 : decode cX8_digest 5 = .ok (.istore_n 3, 1) := by decide +kernel
theorem dX8_digest_6 : decode cX8_digest 6 = .ok (.iload_n 3, 1) := by decide +kernel
theorem dX8_digest_7 : decode cX8_digest 7 = .ok (.bipush 7, 2) := by decide +kernel
theorem dX8_digest_9 : decode cX8_digest 9 = .ok (.if_icmp .gt 22, 3) := by decide +kernel
theorem dX8_digest_12 : decode cX8_digest 12 = .ok (.ldc2_w 308, 3) := by decide +kernel
theorem dX8_digest_15 : decode cX8_digest 15 = .ok (.lload_n 1, 1) := by decide +kernel
theorem dX8_digest_16 : decode cX8_digest 16 = .ok (.lmul, 1) := by decide +kernel
theorem dX8_digest_17 : decode cX8_digest 17 = .ok (.aload_n 0, 1) := by decide +kernel
theorem dX8_digest_18 : decode cX8_digest 18 = .ok (.iload_n 3, 1) := by decide +kernel
theorem dX8_digest_19 : decode cX8_digest 19 = .ok (.invokevirtual 310, 3) := by decide +kernel
theorem dX8_digest_22 : decode cX8_digest 22 = .ok (.i2l, 1) := by decide +kernel
theorem dX8_digest_23 : decode cX8_digest 23 = .ok (.ladd, 1) := by decide +kernel
theorem dX8_digest_24 : decode cX8_digest 24 = .ok (.lstore_n 1, 1) := by decide +kernel
theorem dX8_digest_25 : decode cX8_digest 25 = .ok (.iinc 3 1, 3) := by decide +kernel
theorem dX8_digest_28 : decode cX8_digest 28 = .ok (.goto (-22), 3) := by decide +kernel
theorem dX8_digest_31 : decode cX8_digest 31 = .ok (.ldc2_w 308, 3) := by decide +kernel
theorem dX8_digest_34 : decode cX8_digest 34 = .ok (.lload_n 1, 1) := by decide +kernel
theorem dX8_digest_35 : decode cX8_digest 35 = .ok (.lmul, 1) := by decide +kernel
theorem dX8_digest_36 : decode cX8_digest 36 = .ok (.aload_n 0, 1) := by decide +kernel
theorem dX8_digest_37 : decode cX8_digest 37 = .ok (.invokevirtual 313, 3) := by decide +kernel
theorem dX8_digest_40 : decode cX8_digest 40 = .ok (.i2l, 1) := by decide +kernel
theorem dX8_digest_41 : decode cX8_digest 41 = .ok (.ladd, 1) := by decide +kernel
theorem dX8_digest_42 : decode cX8_digest 42 = .ok (.lstore_n 1, 1) := by decide +kernel
theorem dX8_digest_43 : decode cX8_digest 43 = .ok (.iconst 0, 1) := by decide +kernel
theorem dX8_digest_44 : decode cX8_digest 44 = .ok (.istore_n 3, 1) := by decide +kernel
theorem dX8_digest_45 : decode cX8_digest 45 = .ok (.iload_n 3, 1) := by decide +kernel
theorem dX8_digest_46 : decode cX8_digest 46 = .ok (.iconst 2, 1) := by decide +kernel
theorem dX8_digest_47 : decode cX8_digest 47 = .ok (.if_icmp .gt 22, 3) := by decide +kernel
theorem dX8_digest_50 : decode cX8_digest 50 = .ok (.ldc2_w 308, 3) := by decide +kernel
theorem dX8_digest_53 : decode cX8_digest 53 = .ok (.lload_n 1, 1) := by decide +kernel
theorem dX8_digest_54 : decode cX8_digest 54 = .ok (.lmul, 1) := by decide +kernel
theorem dX8_digest_55 : decode cX8_digest 55 = .ok (.aload_n 0, 1) := by decide +kernel
theorem dX8_digest_56 : decode cX8_digest 56 = .ok (.iload_n 3, 1) := by decide +kernel
theorem dX8_digest_57 : decode cX8_digest 57 = .ok (.invokevirtual 316, 3) := by decide +kernel
theorem dX8_digest_60 : decode cX8_digest 60 = .ok (.i2l, 1) := by decide +kernel
theorem dX8_digest_61 : decode cX8_digest 61 = .ok (.ladd, 1) := by decide +kernel
theorem dX8_digest_62 : decode cX8_digest 62 = .ok (.lstore_n 1, 1) := by decide +kernel
theorem dX8_digest_63 : decode cX8_digest 63 = .ok (.iinc 3 1, 3) := by decide +kernel
theorem dX8_digest_66 : decode cX8_digest 66 = .ok (.goto (-21), 3) := by decide +kernel
theorem dX8_digest_69 : decode cX8_digest 69 = .ok (.aload_n 0, 1) := by decide +kernel
theorem dX8_digest_70 : decode cX8_digest 70 = .ok (.getfield 49, 3) := by decide +kernel
theorem dX8_digest_73 : decode cX8_digest 73 = .ok (.invokevirtual 166, 3) := by decide +kernel
theorem dX8_digest_76 : decode cX8_digest 76 = .ok (.iconst 0, 1) := by decide +kernel
theorem dX8_digest_77 : decode cX8_digest 77 = .ok (.istore_n 3, 1) := by decide +kernel
theorem dX8_digest_78 : decode cX8_digest 78 = .ok (.iload_n 3, 1) := by decide +kernel
theorem dX8_digest_79 : decode cX8_digest 79 = .ok (.aload_n 0, 1) := by decide +kernel
theorem dX8_digest_80 : decode cX8_digest 80 = .ok (.getfield 12, 3) := by decide +kernel
theorem dX8_digest_83 : decode cX8_digest 83 = .ok (.getfield 182, 3) := by decide +kernel
theorem dX8_digest_86 : decode cX8_digest 86 = .ok (.if_icmp .ge 30, 3) := by decide +kernel
theorem dX8_digest_89 : decode cX8_digest 89 = .ok (.aload_n 0, 1) := by decide +kernel
theorem dX8_digest_90 : decode cX8_digest 90 = .ok (.iload_n 3, 1) := by decide +kernel
theorem dX8_digest_91 : decode cX8_digest 91 = .ok (.lload_n 1, 1) := by decide +kernel
theorem dX8_digest_92 : decode cX8_digest 92 = .ok (.invokevirtual 318, 3) := by decide +kernel
theorem dX8_digest_95 : decode cX8_digest 95 = .ok (.lstore_n 1, 1) := by decide +kernel
theorem dX8_digest_96 : decode cX8_digest 96 = .ok (.aload_n 0, 1) := by decide +kernel
theorem dX8_digest_97 : decode cX8_digest 97 = .ok (.iload_n 3, 1) := by decide +kernel
theorem dX8_digest_98 : decode cX8_digest 98 = .ok (.lload_n 1, 1) := by decide +kernel
theorem dX8_digest_99 : decode cX8_digest 99 = .ok (.invokevirtual 322, 3) := by decide +kernel
theorem dX8_digest_102 : decode cX8_digest 102 = .ok (.lstore_n 1, 1) := by decide +kernel
theorem dX8_digest_103 : decode cX8_digest 103 = .ok (.aload_n 0, 1) := by decide +kernel
theorem dX8_digest_104 : decode cX8_digest 104 = .ok (.iload_n 3, 1) := by decide +kernel
theorem dX8_digest_105 : decode cX8_digest 105 = .ok (.lload_n 1, 1) := by decide +kernel
theorem dX8_digest_106 : decode cX8_digest 106 = .ok (.invokevirtual 325, 3) := by decide +kernel
theorem dX8_digest_109 : decode cX8_digest 109 = .ok (.lstore_n 1, 1) := by decide +kernel
theorem dX8_digest_110 : decode cX8_digest 110 = .ok (.iinc 3 1, 3) := by decide +kernel
theorem dX8_digest_113 : decode cX8_digest 113 = .ok (.goto (-35), 3) := by decide +kernel
theorem dX8_digest_116 : decode cX8_digest 116 = .ok (.ldc2_w 308, 3) := by decide +kernel
theorem dX8_digest_119 : decode cX8_digest 119 = .ok (.lload_n 1, 1) := by decide +kernel
theorem dX8_digest_120 : decode cX8_digest 120 = .ok (.lmul, 1) := by decide +kernel
theorem dX8_digest_121 : decode cX8_digest 121 = .ok (.aload_n 0, 1) := by decide +kernel
theorem dX8_digest_122 : decode cX8_digest 122 = .ok (.iconst (-1), 1) := by decide +kernel
theorem dX8_digest_123 : decode cX8_digest 123 = .ok (.iconst 0, 1) := by decide +kernel
theorem dX8_digest_124 : decode cX8_digest 124 = .ok (.invokevirtual 169, 3) := by decide +kernel
theorem dX8_digest_127 : decode cX8_digest 127 = .ok (.i2l, 1) := by decide +kernel
theorem dX8_digest_128 : decode cX8_digest 128 = .ok (.ladd, 1) := by decide +kernel
theorem dX8_digest_129 : decode cX8_digest 129 = .ok (.lstore_n 1, 1) := by decide +kernel
theorem dX8_digest_130 : decode cX8_digest 130 = .ok (.ldc2_w 308, 3) := by decide +kernel
theorem dX8_digest_133 : decode cX8_digest 133 = .ok (.lload_n 1, 1) := by decide +kernel
theorem dX8_digest_134 : decode cX8_digest 134 = .ok (.lmul, 1) := by decide +kernel
theorem dX8_digest_135 : decode cX8_digest 135 = .ok (.aload_n 0, 1) := by decide +kernel
theorem dX8_digest_136 : decode cX8_digest 136 = .ok (.iconst 0, 1) := by decide +kernel
theorem dX8_digest_137 : decode cX8_digest 137 = .ok (.invokevirtual 328, 3) := by decide +kernel
theorem dX8_digest_140 : decode cX8_digest 140 = .ok (.ladd, 1) := by decide +kernel
theorem dX8_digest_141 : decode cX8_digest 141 = .ok (.lstore_n 1, 1) := by decide +kernel
theorem dX8_digest_142 : decode cX8_digest 142 = .ok (.ldc2_w 308, 3) := by decide +kernel
theorem dX8_digest_145 : decode cX8_digest 145 = .ok (.lload_n 1, 1) := by decide +kernel
theorem dX8_digest_146 : decode cX8_digest 146 = .ok (.lmul, 1) := by decide +kernel
theorem dX8_digest_147 : decode cX8_digest 147 = .ok (.aload_n 0, 1) := by decide +kernel
theorem dX8_digest_148 : decode cX8_digest 148 = .ok (.iconst 1, 1) := by decide +kernel
theorem dX8_digest_149 : decode cX8_digest 149 = .ok (.invokevirtual 328, 3) := by decide +kernel
theorem dX8_digest_152 : decode cX8_digest 152 = .ok (.ladd, 1) := by decide +kernel
theorem dX8_digest_153 : decode cX8_digest 153 = .ok (.lreturn, 1) := by decide +kernel
theorem dX8_digestOfWhoOwes_0 : decode cX8_digestOfWhoOwes 0 = .ok (.lload_n 2, 1) := by decide +kernel
theorem dX8_digestOfWhoOwes_1 : decode cX8_digestOfWhoOwes 1 = .ok (.lstore 4, 2) := by decide +kernel
theorem dX8_digestOfWhoOwes_3 : decode cX8_digestOfWhoOwes 3 = .ok (.aload_n 0, 1) := by decide +kernel
theorem dX8_digestOfWhoOwes_4 : decode cX8_digestOfWhoOwes 4 = .ok (.getfield 31, 3) := by decide +kernel
theorem dX8_digestOfWhoOwes_7 : decode cX8_digestOfWhoOwes 7 = .ok (.invokevirtual 114, 3) := by decide +kernel
theorem dX8_digestOfWhoOwes_10 : decode cX8_digestOfWhoOwes 10 = .ok (.iconst 0, 1) := by decide +kernel
theorem dX8_digestOfWhoOwes_11 : decode cX8_digestOfWhoOwes 11 = .ok (.istore 6, 2) := by decide +kernel
theorem dX8_digestOfWhoOwes_13 : decode cX8_digestOfWhoOwes 13 = .ok (.iload 6, 2) := by decide +kernel
theorem dX8_digestOfWhoOwes_15 : decode cX8_digestOfWhoOwes 15 = .ok (.aload_n 0, 1) := by decide +kernel
theorem dX8_digestOfWhoOwes_16 : decode cX8_digestOfWhoOwes 16 = .ok (.getfield 12, 3) := by decide +kernel
theorem dX8_digestOfWhoOwes_19 : decode cX8_digestOfWhoOwes 19 = .ok (.getfield 121, 3) := by decide +kernel
theorem dX8_digestOfWhoOwes_22 : decode cX8_digestOfWhoOwes 22 = .ok (.if_icmp .ge 29, 3) := by decide +kernel
theorem dX8_digestOfWhoOwes_25 : decode cX8_digestOfWhoOwes 25 = .ok (.ldc2_w 308, 3) := by decide +kernel
theorem dX8_digestOfWhoOwes_28 : decode cX8_digestOfWhoOwes 28 = .ok (.lload 4, 2) := by decide +kernel
theorem dX8_digestOfWhoOwes_30 : decode cX8_digestOfWhoOwes 30 = .ok (.lmul, 1) := by decide +kernel
theorem dX8_digestOfWhoOwes_31 : decode cX8_digestOfWhoOwes 31 = .ok (.aload_n 0, 1) := by decide +kernel
theorem dX8_digestOfWhoOwes_32 : decode cX8_digestOfWhoOwes 32 = .ok (.getfield 31, 3) := by decide +kernel
theorem dX8_digestOfWhoOwes_35 : decode cX8_digestOfWhoOwes 35 = .ok (.iload_n 1, 1) := by decide +kernel
theorem dX8_digestOfWhoOwes_36 : decode cX8_digestOfWhoOwes 36 = .ok (.iload 6, 2) := by decide +kernel
theorem dX8_digestOfWhoOwes_38 : decode cX8_digestOfWhoOwes 38 = .ok (.invokevirtual 117, 3) := by decide +kernel
theorem dX8_digestOfWhoOwes_41 : decode cX8_digestOfWhoOwes 41 = .ok (.i2l, 1) := by decide +kernel
theorem dX8_digestOfWhoOwes_42 : decode cX8_digestOfWhoOwes 42 = .ok (.ladd, 1) := by decide +kernel
theorem dX8_digestOfWhoOwes_43 : decode cX8_digestOfWhoOwes 43 = .ok (.lstore 4, 2) := by decide +kernel
theorem dX8_digestOfWhoOwes_45 : decode cX8_digestOfWhoOwes 45 = .ok (.iinc 6 1, 3) := by decide +kernel
theorem dX8_digestOfWhoOwes_48 : decode cX8_digestOfWhoOwes 48 = .ok (.goto (-35), 3) := by decide +kernel
theorem dX8_digestOfWhoOwes_51 : decode cX8_digestOfWhoOwes 51 = .ok (.aload_n 0, 1) := by decide +kernel
theorem dX8_digestOfWhoOwes_52 : decode cX8_digestOfWhoOwes 52 = .ok (.getfield 40, 3) := by decide +kernel
theorem dX8_digestOfWhoOwes_55 : decode cX8_digestOfWhoOwes 55 = .ok (.invokevirtual 131, 3) := by decide +kernel
theorem dX8_digestOfWhoOwes_58 : decode cX8_digestOfWhoOwes 58 = .ok (.aload_n 0, 1) := by decide +kernel
theorem dX8_digestOfWhoOwes_59 : decode cX8_digestOfWhoOwes 59 = .ok (.iload_n 1, 1) := by decide +kernel
theorem dX8_digestOfWhoOwes_60 : decode cX8_digestOfWhoOwes 60 = .ok (.aload_n 0, 1) := by decide +kernel
theorem dX8_digestOfWhoOwes_61 : decode cX8_digestOfWhoOwes 61 = .ok (.getfield 12, 3) := by decide +kernel
theorem dX8_digestOfWhoOwes_64 : decode cX8_digestOfWhoOwes 64 = .ok (.getfield 121, 3) := by decide +kernel
theorem dX8_digestOfWhoOwes_67 : decode cX8_digestOfWhoOwes 67 = .ok (.invokevirtual 134, 3) := by decide +kernel
theorem dX8_digestOfWhoOwes_70 : decode cX8_digestOfWhoOwes 70 = .ok (.lload 4, 2) := by decide +kernel
theorem dX8_digestOfWhoOwes_72 : decode cX8_digestOfWhoOwes 72 = .ok (.invokevirtual 331, 3) := by decide +kernel
theorem dX8_digestOfWhoOwes_75 : decode cX8_digestOfWhoOwes 75 = .ok (.lstore 4, 2) := by decide +kernel
theorem dX8_digestOfWhoOwes_77 : decode cX8_digestOfWhoOwes 77 = .ok (.aload_n 0, 1) := by decide +kernel
theorem dX8_digestOfWhoOwes_78 : decode cX8_digestOfWhoOwes 78 = .ok (.iload_n 1, 1) := by decide +kernel
theorem dX8_digestOfWhoOwes_79 : decode cX8_digestOfWhoOwes 79 = .ok (.invokevirtual 141, 3) := by decide +kernel
theorem dX8_digestOfWhoOwes_82 : decode cX8_digestOfWhoOwes 82 = .ok (.lload 4, 2) := by decide +kernel
theorem dX8_digestOfWhoOwes_84 : decode cX8_digestOfWhoOwes 84 = .ok (.invokevirtual 331, 3) := by decide +kernel
theorem dX8_digestOfWhoOwes_87 : decode cX8_digestOfWhoOwes 87 = .ok (.lstore 4, 2) := by decide +kernel
theorem dX8_digestOfWhoOwes_89 : decode cX8_digestOfWhoOwes 89 = .ok (.aload_n 0, 1) := by decide +kernel
theorem dX8_digestOfWhoOwes_90 : decode cX8_digestOfWhoOwes 90 = .ok (.aload_n 0, 1) := by decide +kernel
theorem dX8_digestOfWhoOwes_91 : decode cX8_digestOfWhoOwes 91 = .ok (.getfield 40, 3) := by decide +kernel
theorem dX8_digestOfWhoOwes_94 : decode cX8_digestOfWhoOwes 94 = .ok (.iload_n 1, 1) := by decide +kernel
theorem dX8_digestOfWhoOwes_95 : decode cX8_digestOfWhoOwes 95 = .ok (.invokevirtual 145, 3) := by decide +kernel
theorem dX8_digestOfWhoOwes_98 : decode cX8_digestOfWhoOwes 98 = .ok (.invokevirtual 148, 3) := by decide +kernel
theorem dX8_digestOfWhoOwes_101 : decode cX8_digestOfWhoOwes 101 = .ok (.lload 4, 2) := by decide +kernel
theorem dX8_digestOfWhoOwes_103 : decode cX8_digestOfWhoOwes 103 = .ok (.invokevirtual 331, 3) := by decide +kernel
theorem dX8_digestOfWhoOwes_106 : decode cX8_digestOfWhoOwes 106 = .ok (.lreturn, 1) := by decide +kernel
theorem dX8_digestOfSearches_0 : decode cX8_digestOfSearches 0 = .ok (.aload_n 0, 1) := by decide +kernel
theorem dX8_digestOfSearches_1 : decode cX8_digestOfSearches 1 = .ok (.getfield 49, 3) := by decide +kernel
theorem dX8_digestOfSearches_4 : decode cX8_digestOfSearches 4 = .ok (.iload_n 1, 1) := by decide +kernel
theorem dX8_digestOfSearches_5 : decode cX8_digestOfSearches 5 = .ok (.invokevirtual 152, 3) := by decide +kernel
theorem dX8_digestOfSearches_8 : decode cX8_digestOfSearches 8 = .ok (.ldc2_w 308, 3) := by decide +kernel
theorem dX8_digestOfSearches_11 : decode cX8_digestOfSearches 11 = .ok (.lload_n 2, 1) := by decide +kernel
theorem dX8_digestOfSearches_12 : decode cX8_digestOfSearches 12 = .ok (.lmul, 1) := by decide +kernel
theorem dX8_digestOfSearches_13 : decode cX8_digestOfSearches 13 = .ok (.aload_n 0, 1) := by decide +kernel
theorem dX8_digestOfSearches_14 : decode cX8_digestOfSearches 14 = .ok (.getfield 49, 3) := by decide +kernel
theorem dX8_digestOfSearches_17 : decode cX8_digestOfSearches 17 = .ok (.getfield 156, 3) := by decide +kernel
theorem dX8_digestOfSearches_20 : decode cX8_digestOfSearches 20 = .ok (.i2l, 1) := by decide +kernel
theorem dX8_digestOfSearches_21 : decode cX8_digestOfSearches 21 = .ok (.ladd, 1) := by decide +kernel
theorem dX8_digestOfSearches_22 : decode cX8_digestOfSearches 22 = .ok (.lstore 4, 2) := by decide +kernel
theorem dX8_digestOfSearches_24 : decode cX8_digestOfSearches 24 = .ok (.ldc2_w 308, 3) := by decide +kernel
theorem dX8_digestOfSearches_27 : decode cX8_digestOfSearches 27 = .ok (.lload 4, 2) := by decide +kernel
theorem dX8_digestOfSearches_29 : decode cX8_digestOfSearches 29 = .ok (.lmul, 1) := by decide +kernel
theorem dX8_digestOfSearches_30 : decode cX8_digestOfSearches 30 = .ok (.aload_n 0, 1) := by decide +kernel
theorem dX8_digestOfSearches_31 : decode cX8_digestOfSearches 31 = .ok (.getfield 49, 3) := by decide +kernel
theorem dX8_digestOfSearches_34 : decode cX8_digestOfSearches 34 = .ok (.getfield 159, 3) := by decide +kernel
theorem dX8_digestOfSearches_37 : decode cX8_digestOfSearches 37 = .ok (.i2l, 1) := by decide +kernel
theorem dX8_digestOfSearches_38 : decode cX8_digestOfSearches 38 = .ok (.ladd, 1) := by decide +kernel
theorem dX8_digestOfSearches_39 : decode cX8_digestOfSearches 39 = .ok (.lstore 4, 2) := by decide +kernel
theorem dX8_digestOfSearches_41 : decode cX8_digestOfSearches 41 = .ok (.ldc2_w 308, 3) := by decide +kernel
theorem dX8_digestOfSearches_44 : decode cX8_digestOfSearches 44 = .ok (.lload 4, 2) := by decide +kernel
theorem dX8_digestOfSearches_46 : decode cX8_digestOfSearches 46 = .ok (.lmul, 1) := by decide +kernel
theorem dX8_digestOfSearches_47 : decode cX8_digestOfSearches 47 = .ok (.aload_n 0, 1) := by decide +kernel
theorem dX8_digestOfSearches_48 : decode cX8_digestOfSearches 48 = .ok (.iload_n 1, 1) := by decide +kernel
theorem dX8_digestOfSearches_49 : decode cX8_digestOfSearches 49 = .ok (.iconst 0, 1) := by decide +kernel
theorem dX8_digestOfSearches_50 : decode cX8_digestOfSearches 50 = .ok (.invokevirtual 169, 3) := by decide +kernel
theorem dX8_digestOfSearches_53 : decode cX8_digestOfSearches 53 = .ok (.i2l, 1) := by decide +kernel
theorem dX8_digestOfSearches_54 : decode cX8_digestOfSearches 54 = .ok (.ladd, 1) := by decide +kernel
theorem dX8_digestOfSearches_55 : decode cX8_digestOfSearches 55 = .ok (.lstore 4, 2) := by decide +kernel
theorem dX8_digestOfSearches_57 : decode cX8_digestOfSearches 57 = .ok (.ldc2_w 308, 3) := by decide +kernel
theorem dX8_digestOfSearches_60 : decode cX8_digestOfSearches 60 = .ok (.lload 4, 2) := by decide +kernel
theorem dX8_digestOfSearches_62 : decode cX8_digestOfSearches 62 = .ok (.lmul, 1) := by decide +kernel
theorem dX8_digestOfSearches_63 : decode cX8_digestOfSearches 63 = .ok (.aload_n 0, 1) := by decide +kernel
theorem dX8_digestOfSearches_64 : decode cX8_digestOfSearches 64 = .ok (.iload_n 1, 1) := by decide +kernel
theorem dX8_digestOfSearches_65 : decode cX8_digestOfSearches 65 = .ok (.iconst 1, 1) := by decide +kernel
theorem dX8_digestOfSearches_66 : decode cX8_digestOfSearches 66 = .ok (.invokevirtual 169, 3) := by decide +kernel
theorem dX8_digestOfSearches_69 : decode cX8_digestOfSearches 69 = .ok (.i2l, 1) := by decide +kernel
theorem dX8_digestOfSearches_70 : decode cX8_digestOfSearches 70 = .ok (.ladd, 1) := by decide +kernel
theorem dX8_digestOfSearches_71 : decode cX8_digestOfSearches 71 = .ok (.lstore 4, 2) := by decide +kernel
theorem dX8_digestOfSearches_73 : decode cX8_digestOfSearches 73 = .ok (.aload_n 0, 1) := by decide +kernel
theorem dX8_digestOfSearches_74 : decode cX8_digestOfSearches 74 = .ok (.getfield 49, 3) := by decide +kernel
theorem dX8_digestOfSearches_77 : decode cX8_digestOfSearches 77 = .ok (.iload_n 1, 1) := by decide +kernel
theorem dX8_digestOfSearches_78 : decode cX8_digestOfSearches 78 = .ok (.invokevirtual 172, 3) := by decide +kernel
theorem dX8_digestOfSearches_81 : decode cX8_digestOfSearches 81 = .ok (.iconst 0, 1) := by decide +kernel
theorem dX8_digestOfSearches_82 : decode cX8_digestOfSearches 82 = .ok (.istore 6, 2) := by decide +kernel
theorem dX8_digestOfSearches_84 : decode cX8_digestOfSearches 84 = .ok (.iload 6, 2) := by decide +kernel
theorem dX8_digestOfSearches_86 : decode cX8_digestOfSearches 86 = .ok (.aload_n 0, 1) := by decide +kernel
theorem dX8_digestOfSearches_87 : decode cX8_digestOfSearches 87 = .ok (.getfield 12, 3) := by decide +kernel
theorem dX8_digestOfSearches_90 : decode cX8_digestOfSearches 90 = .ok (.getfield 121, 3) := by decide +kernel
theorem dX8_digestOfSearches_93 : decode cX8_digestOfSearches 93 = .ok (.if_icmp .ge 29, 3) := by decide +kernel
theorem dX8_digestOfSearches_96 : decode cX8_digestOfSearches 96 = .ok (.ldc2_w 308, 3) := by decide +kernel
theorem dX8_digestOfSearches_99 : decode cX8_digestOfSearches 99 = .ok (.lload 4, 2) := by decide +kernel
theorem dX8_digestOfSearches_101 : decode cX8_digestOfSearches 101 = .ok (.lmul, 1) := by decide +kernel
theorem dX8_digestOfSearches_102 : decode cX8_digestOfSearches 102 = .ok (.aload_n 0, 1) := by decide +kernel
theorem dX8_digestOfSearches_103 : decode cX8_digestOfSearches 103 = .ok (.getfield 49, 3) := by decide +kernel
theorem dX8_digestOfSearches_106 : decode cX8_digestOfSearches 106 = .ok (.getfield 175, 3) := by decide +kernel
theorem dX8_digestOfSearches_109 : decode cX8_digestOfSearches 109 = .ok (.iload 6, 2) := by decide +kernel
theorem dX8_digestOfSearches_111 : decode cX8_digestOfSearches 111 = .ok (.iaload, 1) := by decide +kernel
theorem dX8_digestOfSearches_112 : decode cX8_digestOfSearches 112 = .ok (.i2l, 1) := by decide +kernel
theorem dX8_digestOfSearches_113 : decode cX8_digestOfSearches 113 = .ok (.ladd, 1) := by decide +kernel
theorem dX8_digestOfSearches_114 : decode cX8_digestOfSearches 114 = .ok (.lstore 4, 2) := by decide +kernel
theorem dX8_digestOfSearches_116 : decode cX8_digestOfSearches 116 = .ok (.iinc 6 1, 3) := by decide +kernel
theorem dX8_digestOfSearches_119 : decode cX8_digestOfSearches 119 = .ok (.goto (-35), 3) := by decide +kernel
theorem dX8_digestOfSearches_122 : decode cX8_digestOfSearches 122 = .ok (.ldc2_w 308, 3) := by decide +kernel
theorem dX8_digestOfSearches_125 : decode cX8_digestOfSearches 125 = .ok (.lload 4, 2) := by decide +kernel
theorem dX8_digestOfSearches_127 : decode cX8_digestOfSearches 127 = .ok (.lmul, 1) := by decide +kernel
theorem dX8_digestOfSearches_128 : decode cX8_digestOfSearches 128 = .ok (.aload_n 0, 1) := by decide +kernel
theorem dX8_digestOfSearches_129 : decode cX8_digestOfSearches 129 = .ok (.getfield 49, 3) := by decide +kernel
theorem dX8_digestOfSearches_132 : decode cX8_digestOfSearches 132 = .ok (.iload_n 1, 1) := by decide +kernel
theorem dX8_digestOfSearches_133 : decode cX8_digestOfSearches 133 = .ok (.invokevirtual 178, 3) := by decide +kernel
theorem dX8_digestOfSearches_136 : decode cX8_digestOfSearches 136 = .ok (.i2l, 1) := by decide +kernel
theorem dX8_digestOfSearches_137 : decode cX8_digestOfSearches 137 = .ok (.ladd, 1) := by decide +kernel
theorem dX8_digestOfSearches_138 : decode cX8_digestOfSearches 138 = .ok (.lstore 4, 2) := by decide +kernel
theorem dX8_digestOfSearches_140 : decode cX8_digestOfSearches 140 = .ok (.ldc2_w 308, 3) := by decide +kernel
theorem dX8_digestOfSearches_143 : decode cX8_digestOfSearches 143 = .ok (.lload 4, 2) := by decide +kernel
theorem dX8_digestOfSearches_145 : decode cX8_digestOfSearches 145 = .ok (.lmul, 1) := by decide +kernel
theorem dX8_digestOfSearches_146 : decode cX8_digestOfSearches 146 = .ok (.aload_n 0, 1) := by decide +kernel
theorem dX8_digestOfSearches_147 : decode cX8_digestOfSearches 147 = .ok (.getfield 49, 3) := by decide +kernel
theorem dX8_digestOfSearches_150 : decode cX8_digestOfSearches 150 = .ok (.iload_n 1, 1) := by decide +kernel
theorem dX8_digestOfSearches_151 : decode cX8_digestOfSearches 151 = .ok (.invokevirtual 194, 3) := by decide +kernel
theorem dX8_digestOfSearches_154 : decode cX8_digestOfSearches 154 = .ok (.i2l, 1) := by decide +kernel
theorem dX8_digestOfSearches_155 : decode cX8_digestOfSearches 155 = .ok (.ladd, 1) := by decide +kernel
theorem dX8_digestOfSearches_156 : decode cX8_digestOfSearches 156 = .ok (.lstore 4, 2) := by decide +kernel
theorem dX8_digestOfSearches_158 : decode cX8_digestOfSearches 158 = .ok (.ldc2_w 308, 3) := by decide +kernel
theorem dX8_digestOfSearches_161 : decode cX8_digestOfSearches 161 = .ok (.lload 4, 2) := by decide +kernel
theorem dX8_digestOfSearches_163 : decode cX8_digestOfSearches 163 = .ok (.lmul, 1) := by decide +kernel
theorem dX8_digestOfSearches_164 : decode cX8_digestOfSearches 164 = .ok (.aload_n 0, 1) := by decide +kernel
theorem dX8_digestOfSearches_165 : decode cX8_digestOfSearches 165 = .ok (.getfield 49, 3) := by decide +kernel
theorem dX8_digestOfSearches_168 : decode cX8_digestOfSearches 168 = .ok (.iload_n 1, 1) := by decide +kernel
theorem dX8_digestOfSearches_169 : decode cX8_digestOfSearches 169 = .ok (.invokevirtual 197, 3) := by decide +kernel
theorem dX8_digestOfSearches_172 : decode cX8_digestOfSearches 172 = .ok (.i2l, 1) := by decide +kernel
theorem dX8_digestOfSearches_173 : decode cX8_digestOfSearches 173 = .ok (.ladd, 1) := by decide +kernel
theorem dX8_digestOfSearches_174 : decode cX8_digestOfSearches 174 = .ok (.lreturn, 1) := by decide +kernel
theorem dX8_digestOfStrokes_0 : decode cX8_digestOfStrokes 0 = .ok (.ldc2_w 308, 3) := by decide +kernel
theorem dX8_digestOfStrokes_3 : decode cX8_digestOfStrokes 3 = .ok (.lload_n 2, 1) := by decide +kernel
theorem dX8_digestOfStrokes_4 : decode cX8_digestOfStrokes 4 = .ok (.lmul, 1) := by decide +kernel
theorem dX8_digestOfStrokes_5 : decode cX8_digestOfStrokes 5 = .ok (.aload_n 0, 1) := by decide +kernel
theorem dX8_digestOfStrokes_6 : decode cX8_digestOfStrokes 6 = .ok (.iload_n 1, 1) := by decide +kernel
theorem dX8_digestOfStrokes_7 : decode cX8_digestOfStrokes 7 = .ok (.iconst 0, 1) := by decide +kernel
theorem dX8_digestOfStrokes_8 : decode cX8_digestOfStrokes 8 = .ok (.invokevirtual 335, 3) := by decide +kernel
theorem dX8_digestOfStrokes_11 : decode cX8_digestOfStrokes 11 = .ok (.ladd, 1) := by decide +kernel
theorem dX8_digestOfStrokes_12 : decode cX8_digestOfStrokes 12 = .ok (.lstore 4, 2) := by decide +kernel
theorem dX8_digestOfStrokes_14 : decode cX8_digestOfStrokes 14 = .ok (.ldc2_w 308, 3) := by decide +kernel
theorem dX8_digestOfStrokes_17 : decode cX8_digestOfStrokes 17 = .ok (.lload 4, 2) := by decide +kernel
theorem dX8_digestOfStrokes_19 : decode cX8_digestOfStrokes 19 = .ok (.lmul, 1) := by decide +kernel
theorem dX8_digestOfStrokes_20 : decode cX8_digestOfStrokes 20 = .ok (.aload_n 0, 1) := by decide +kernel
theorem dX8_digestOfStrokes_21 : decode cX8_digestOfStrokes 21 = .ok (.iload_n 1, 1) := by decide +kernel
theorem dX8_digestOfStrokes_22 : decode cX8_digestOfStrokes 22 = .ok (.iconst 1, 1) := by decide +kernel
theorem dX8_digestOfStrokes_23 : decode cX8_digestOfStrokes 23 = .ok (.invokevirtual 335, 3) := by decide +kernel
theorem dX8_digestOfStrokes_26 : decode cX8_digestOfStrokes 26 = .ok (.ladd, 1) := by decide +kernel
theorem dX8_digestOfStrokes_27 : decode cX8_digestOfStrokes 27 = .ok (.lstore 4, 2) := by decide +kernel
theorem dX8_digestOfStrokes_29 : decode cX8_digestOfStrokes 29 = .ok (.ldc2_w 308, 3) := by decide +kernel
theorem dX8_digestOfStrokes_32 : decode cX8_digestOfStrokes 32 = .ok (.lload 4, 2) := by decide +kernel
theorem dX8_digestOfStrokes_34 : decode cX8_digestOfStrokes 34 = .ok (.lmul, 1) := by decide +kernel
theorem dX8_digestOfStrokes_35 : decode cX8_digestOfStrokes 35 = .ok (.aload_n 0, 1) := by decide +kernel
theorem dX8_digestOfStrokes_36 : decode cX8_digestOfStrokes 36 = .ok (.bipush 7, 2) := by decide +kernel
theorem dX8_digestOfStrokes_38 : decode cX8_digestOfStrokes 38 = .ok (.bipush 9, 2) := by decide +kernel
theorem dX8_digestOfStrokes_40 : decode cX8_digestOfStrokes 40 = .ok (.iload_n 1, 1) := by decide +kernel
theorem dX8_digestOfStrokes_41 : decode cX8_digestOfStrokes 41 = .ok (.invokevirtual 338, 3) := by decide +kernel
theorem dX8_digestOfStrokes_44 : decode cX8_digestOfStrokes 44 = .ok (.i2l, 1) := by decide +kernel
theorem dX8_digestOfStrokes_45 : decode cX8_digestOfStrokes 45 = .ok (.ladd, 1) := by decide +kernel
theorem dX8_digestOfStrokes_46 : decode cX8_digestOfStrokes 46 = .ok (.lstore 4, 2) := by decide +kernel
theorem dX8_digestOfStrokes_48 : decode cX8_digestOfStrokes 48 = .ok (.ldc2_w 308, 3) := by decide +kernel
theorem dX8_digestOfStrokes_51 : decode cX8_digestOfStrokes 51 = .ok (.lload 4, 2) := by decide +kernel
theorem dX8_digestOfStrokes_53 : decode cX8_digestOfStrokes 53 = .ok (.lmul, 1) := by decide +kernel
theorem dX8_digestOfStrokes_54 : decode cX8_digestOfStrokes 54 = .ok (.aload_n 0, 1) := by decide +kernel
theorem dX8_digestOfStrokes_55 : decode cX8_digestOfStrokes 55 = .ok (.iload_n 1, 1) := by decide +kernel
theorem dX8_digestOfStrokes_56 : decode cX8_digestOfStrokes 56 = .ok (.invokevirtual 341, 3) := by decide +kernel
theorem dX8_digestOfStrokes_59 : decode cX8_digestOfStrokes 59 = .ok (.i2l, 1) := by decide +kernel
theorem dX8_digestOfStrokes_60 : decode cX8_digestOfStrokes 60 = .ok (.ladd, 1) := by decide +kernel
theorem dX8_digestOfStrokes_61 : decode cX8_digestOfStrokes 61 = .ok (.lreturn, 1) := by decide +kernel
theorem dX8_within_0 : decode cX8_within 0 = .ok (.iload_n 0, 1) := by decide +kernel
theorem dX8_within_1 : decode cX8_within 1 = .ok (.ifCond .lt 12, 3) := by decide +kernel
theorem dX8_within_4 : decode cX8_within 4 = .ok (.iload_n 0, 1) := by decide +kernel
theorem dX8_within_5 : decode cX8_within 5 = .ok (.iload_n 1, 1) := by decide +kernel
theorem dX8_within_6 : decode cX8_within 6 = .ok (.if_icmp .gt 7, 3) := by decide +kernel
theorem dX8_within_9 : decode cX8_within 9 = .ok (.iconst 1, 1) := by decide +kernel
theorem dX8_within_10 : decode cX8_within 10 = .ok (.goto 4, 3) := by decide +kernel
theorem dX8_within_13 : decode cX8_within 13 = .ok (.iconst 0, 1) := by decide +kernel
theorem dX8_within_14 : decode cX8_within 14 = .ok (.ireturn, 1) := by decide +kernel
theorem dX8_isPerson_0 : decode cX8_isPerson 0 = .ok (.iload_n 1, 1) := by decide +kernel
theorem dX8_isPerson_1 : decode cX8_isPerson 1 = .ok (.aload_n 0, 1) := by decide +kernel
theorem dX8_isPerson_2 : decode cX8_isPerson 2 = .ok (.getfield 12, 3) := by decide +kernel
theorem dX8_isPerson_5 : decode cX8_isPerson 5 = .ok (.getfield 182, 3) := by decide +kernel
theorem dX8_isPerson_8 : decode cX8_isPerson 8 = .ok (.iconst 1, 1) := by decide +kernel
theorem dX8_isPerson_9 : decode cX8_isPerson 9 = .ok (.isub, 1) := by decide +kernel
theorem dX8_isPerson_10 : decode cX8_isPerson 10 = .ok (.invokestatic 81, 3) := by decide +kernel
theorem dX8_isPerson_13 : decode cX8_isPerson 13 = .ok (.ireturn, 1) := by decide +kernel
theorem dX8_isTale_0 : decode cX8_isTale 0 = .ok (.iload_n 1, 1) := by decide +kernel
theorem dX8_isTale_1 : decode cX8_isTale 1 = .ok (.aload_n 0, 1) := by decide +kernel
theorem dX8_isTale_2 : decode cX8_isTale 2 = .ok (.getfield 12, 3) := by decide +kernel
theorem dX8_isTale_5 : decode cX8_isTale 5 = .ok (.getfield 121, 3) := by decide +kernel
theorem dX8_isTale_8 : decode cX8_isTale 8 = .ok (.iconst 1, 1) := by decide +kernel
theorem dX8_isTale_9 : decode cX8_isTale 9 = .ok (.isub, 1) := by decide +kernel
theorem dX8_isTale_10 : decode cX8_isTale 10 = .ok (.invokestatic 81, 3) := by decide +kernel
theorem dX8_isTale_13 : decode cX8_isTale 13 = .ok (.ireturn, 1) := by decide +kernel
theorem dX8_isPart_0 : decode cX8_isPart 0 = .ok (.iload_n 0, 1) := by decide +kernel
theorem dX8_isPart_1 : decode cX8_isPart 1 = .ok (.iconst 1, 1) := by decide +kernel
theorem dX8_isPart_2 : decode cX8_isPart 2 = .ok (.invokestatic 81, 3) := by decide +kernel
theorem dX8_isPart_5 : decode cX8_isPart 5 = .ok (.ireturn, 1) := by decide +kernel
theorem dX8_isSheet_0 : decode cX8_isSheet 0 = .ok (.iload_n 0, 1) := by decide +kernel
theorem dX8_isSheet_1 : decode cX8_isSheet 1 = .ok (.iconst 3, 1) := by decide +kernel
theorem dX8_isSheet_2 : decode cX8_isSheet 2 = .ok (.invokestatic 81, 3) := by decide +kernel
theorem dX8_isSheet_5 : decode cX8_isSheet 5 = .ok (.ireturn, 1) := by decide +kernel
theorem dX8_isForm_0 : decode cX8_isForm 0 = .ok (.iload_n 0, 1) := by decide +kernel
theorem dX8_isForm_1 : decode cX8_isForm 1 = .ok (.iconst 2, 1) := by decide +kernel
theorem dX8_isForm_2 : decode cX8_isForm 2 = .ok (.invokestatic 81, 3) := by decide +kernel
theorem dX8_isForm_5 : decode cX8_isForm 5 = .ok (.ireturn, 1) := by decide +kernel
theorem dX8_mayBeSeen_0 : decode cX8_mayBeSeen 0 = .ok (.iload_n 0, 1) := by decide +kernel
theorem dX8_mayBeSeen_1 : decode cX8_mayBeSeen 1 = .ok (.bipush 9, 2) := by decide +kernel
theorem dX8_mayBeSeen_3 : decode cX8_mayBeSeen 3 = .ok (.invokestatic 81, 3) := by decide +kernel
theorem dX8_mayBeSeen_6 : decode cX8_mayBeSeen 6 = .ok (.ifCond .eq 23, 3) := by decide +kernel
theorem dX8_mayBeSeen_9 : decode cX8_mayBeSeen 9 = .ok (.iload_n 1, 1) := by decide +kernel
theorem dX8_mayBeSeen_10 : decode cX8_mayBeSeen 10 = .ok (.iconst 4, 1) := by decide +kernel
theorem dX8_mayBeSeen_11 : decode cX8_mayBeSeen 11 = .ok (.invokestatic 81, 3) := by decide +kernel
theorem dX8_mayBeSeen_14 : decode cX8_mayBeSeen 14 = .ok (.ifCond .eq 15, 3) := by decide +kernel
theorem dX8_mayBeSeen_17 : decode cX8_mayBeSeen 17 = .ok (.iload_n 2, 1) := by decide +kernel
theorem dX8_mayBeSeen_18 : decode cX8_mayBeSeen 18 = .ok (.iconst 1, 1) := by decide +kernel
theorem dX8_mayBeSeen_19 : decode cX8_mayBeSeen 19 = .ok (.invokestatic 81, 3) := by decide +kernel
theorem dX8_mayBeSeen_22 : decode cX8_mayBeSeen 22 = .ok (.ifCond .eq 7, 3) := by decide +kernel
theorem dX8_mayBeSeen_25 : decode cX8_mayBeSeen 25 = .ok (.iconst 1, 1) := by decide +kernel
theorem dX8_mayBeSeen_26 : decode cX8_mayBeSeen 26 = .ok (.goto 4, 3) := by decide +kernel
theorem dX8_mayBeSeen_29 : decode cX8_mayBeSeen 29 = .ok (.iconst 0, 1) := by decide +kernel
theorem dX8_mayBeSeen_30 : decode cX8_mayBeSeen 30 = .ok (.ireturn, 1) := by decide +kernel
theorem dX8_asLong_0 : decode cX8_asLong 0 = .ok (.ldc2_w 344, 3) := by decide +kernel
theorem dX8_asLong_3 : decode cX8_asLong 3 = .ok (.iload_n 0, 1) := by decide +kernel
theorem dX8_asLong_4 : decode cX8_asLong 4 = .ok (.i2l, 1) := by decide +kernel
theorem dX8_asLong_5 : decode cX8_asLong 5 = .ok (.lsub, 1) := by decide +kernel
theorem dX8_asLong_6 : decode cX8_asLong 6 = .ok (.lreturn, 1) := by decide +kernel
theorem dX8_hasBit_0 : decode cX8_hasBit 0 = .ok (.iload_n 0, 1) := by decide +kernel
theorem dX8_hasBit_1 : decode cX8_hasBit 1 = .ok (.iload_n 1, 1) := by decide +kernel
theorem dX8_hasBit_2 : decode cX8_hasBit 2 = .ok (.ishr, 1) := by decide +kernel
theorem dX8_hasBit_3 : decode cX8_hasBit 3 = .ok (.iconst 1, 1) := by decide +kernel
theorem dX8_hasBit_4 : decode cX8_hasBit 4 = .ok (.iand, 1) := by decide +kernel
theorem dX8_hasBit_5 : decode cX8_hasBit 5 = .ok (.iconst 1, 1) := by decide +kernel
theorem dX8_hasBit_6 : decode cX8_hasBit 6 = .ok (.if_icmp .ne 7, 3) := by decide +kernel
theorem dX8_hasBit_9 : decode cX8_hasBit 9 = .ok (.iconst 1, 1) := by decide +kernel
theorem dX8_hasBit_10 : decode cX8_hasBit 10 = .ok (.goto 4, 3) := by decide +kernel
theorem dX8_hasBit_13 : decode cX8_hasBit 13 = .ok (.iconst 0, 1) := by decide +kernel
theorem dX8_hasBit_14 : decode cX8_hasBit 14 = .ok (.ireturn, 1) := by decide +kernel
theorem dX8_quartersOf_0 : decode cX8_quartersOf 0 = .ok (.iload_n 0, 1) := by decide +kernel
theorem dX8_quartersOf_1 : decode cX8_quartersOf 1 = .ok (.ifCond .eq 7, 3) := by decide +kernel
theorem dX8_quartersOf_4 : decode cX8_quartersOf 4 = .ok (.iload_n 1, 1) := by decide +kernel
theorem dX8_quartersOf_5 : decode cX8_quartersOf 5 = .ok (.ifCond .ne 5, 3) := by decide +kernel
theorem dX8_quartersOf_8 : decode cX8_quartersOf 8 = .ok (.iconst 0, 1) := by decide +kernel
theorem dX8_quartersOf_9 : decode cX8_quartersOf 9 = .ok (.ireturn, 1) := by decide +kernel
theorem dX8_quartersOf_10 : decode cX8_quartersOf 10 = .ok (.iload_n 0, 1) := by decide +kernel
theorem dX8_quartersOf_11 : decode cX8_quartersOf 11 = .ok (.iload_n 1, 1) := by decide +kernel
theorem dX8_quartersOf_12 : decode cX8_quartersOf 12 = .ok (.imul, 1) := by decide +kernel
theorem dX8_quartersOf_13 : decode cX8_quartersOf 13 = .ok (.iconst 5, 1) := by decide +kernel
theorem dX8_quartersOf_14 : decode cX8_quartersOf 14 = .ok (.iload_n 2, 1) := by decide +kernel
theorem dX8_quartersOf_15 : decode cX8_quartersOf 15 = .ok (.imul, 1) := by decide +kernel
theorem dX8_quartersOf_16 : decode cX8_quartersOf 16 = .ok (.iadd, 1) := by decide +kernel
theorem dX8_quartersOf_17 : decode cX8_quartersOf 17 = .ok (.bipush 20, 2) := by decide +kernel
theorem dX8_quartersOf_19 : decode cX8_quartersOf 19 = .ok (.idiv, 1) := by decide +kernel
theorem dX8_quartersOf_20 : decode cX8_quartersOf 20 = .ok (.istore 4, 2) := by decide +kernel
theorem dX8_quartersOf_22 : decode cX8_quartersOf 22 = .ok (.iload 4, 2) := by decide +kernel
theorem dX8_quartersOf_24 : decode cX8_quartersOf 24 = .ok (.iconst 4, 1) := by decide +kernel
theorem dX8_quartersOf_25 : decode cX8_quartersOf 25 = .ok (.if_icmp .ge 8, 3) := by decide +kernel
theorem dX8_quartersOf_28 : decode cX8_quartersOf 28 = .ok (.iload 4, 2) := by decide +kernel
theorem dX8_quartersOf_30 : decode cX8_quartersOf 30 = .ok (.goto 4, 3) := by decide +kernel
theorem dX8_quartersOf_33 : decode cX8_quartersOf 33 = .ok (.iconst 4, 1) := by decide +kernel
theorem dX8_quartersOf_34 : decode cX8_quartersOf 34 = .ok (.istore 5, 2) := by decide +kernel
theorem dX8_quartersOf_36 : decode cX8_quartersOf 36 = .ok (.iload_n 3, 1) := by decide +kernel
theorem dX8_quartersOf_37 : decode cX8_quartersOf 37 = .ok (.ifCond .ne 6, 3) := by decide +kernel
theorem dX8_quartersOf_40 : decode cX8_quartersOf 40 = .ok (.iload 5, 2) := by decide +kernel
theorem dX8_quartersOf_42 : decode cX8_quartersOf 42 = .ok (.ireturn, 1) := by decide +kernel
theorem dX8_quartersOf_43 : decode cX8_quartersOf 43 = .ok (.iload 5, 2) := by decide +kernel
theorem dX8_quartersOf_45 : decode cX8_quartersOf 45 = .ok (.iconst 2, 1) := by decide +kernel
theorem dX8_quartersOf_46 : decode cX8_quartersOf 46 = .ok (.if_icmp .le 10, 3) := by decide +kernel
theorem dX8_quartersOf_49 : decode cX8_quartersOf 49 = .ok (.iload 5, 2) := by decide +kernel
theorem dX8_quartersOf_51 : decode cX8_quartersOf 51 = .ok (.iconst 2, 1) := by decide +kernel
theorem dX8_quartersOf_52 : decode cX8_quartersOf 52 = .ok (.isub, 1) := by decide +kernel
theorem dX8_quartersOf_53 : decode cX8_quartersOf 53 = .ok (.goto 4, 3) := by decide +kernel
theorem dX8_quartersOf_56 : decode cX8_quartersOf 56 = .ok (.iconst 0, 1) := by decide +kernel
theorem dX8_quartersOf_57 : decode cX8_quartersOf 57 = .ok (.ireturn, 1) := by decide +kernel
theorem dX8_shareOwed_0 : decode cX8_shareOwed 0 = .ok (.aload_n 0, 1) := by decide +kernel
theorem dX8_shareOwed_1 : decode cX8_shareOwed 1 = .ok (.getfield 63, 3) := by decide +kernel
theorem dX8_shareOwed_4 : decode cX8_shareOwed 4 = .ok (.aload_n 0, 1) := by decide +kernel
theorem dX8_shareOwed_5 : decode cX8_shareOwed 5 = .ok (.getfield 40, 3) := by decide +kernel
theorem dX8_shareOwed_8 : decode cX8_shareOwed 8 = .ok (.iload_n 1, 1) := by decide +kernel
theorem dX8_shareOwed_9 : decode cX8_shareOwed 9 = .ok (.iload_n 2, 1) := by decide +kernel
theorem dX8_shareOwed_10 : decode cX8_shareOwed 10 = .ok (.invokevirtual 209, 3) := by decide +kernel
theorem dX8_shareOwed_13 : decode cX8_shareOwed 13 = .ok (.aload_n 0, 1) := by decide +kernel
theorem dX8_shareOwed_14 : decode cX8_shareOwed 14 = .ok (.getfield 40, 3) := by decide +kernel
theorem dX8_shareOwed_17 : decode cX8_shareOwed 17 = .ok (.invokevirtual 213, 3) := by decide +kernel
theorem dX8_shareOwed_20 : decode cX8_shareOwed 20 = .ok (.invokevirtual 217, 3) := by decide +kernel
theorem dX8_shareOwed_23 : decode cX8_shareOwed 23 = .ok (.areturn, 1) := by decide +kernel
theorem dX8_shareOfDebt_0 : decode cX8_shareOfDebt 0 = .ok (.aload_n 0, 1) := by decide +kernel
theorem dX8_shareOfDebt_1 : decode cX8_shareOfDebt 1 = .ok (.getfield 63, 3) := by decide +kernel
theorem dX8_shareOfDebt_4 : decode cX8_shareOfDebt 4 = .ok (.aload_n 0, 1) := by decide +kernel
theorem dX8_shareOfDebt_5 : decode cX8_shareOfDebt 5 = .ok (.getfield 40, 3) := by decide +kernel
theorem dX8_shareOfDebt_8 : decode cX8_shareOfDebt 8 = .ok (.getfield 346, 3) := by decide +kernel
theorem dX8_shareOfDebt_11 : decode cX8_shareOfDebt 11 = .ok (.iload_n 1, 1) := by decide +kernel
theorem dX8_shareOfDebt_12 : decode cX8_shareOfDebt 12 = .ok (.laload, 1) := by decide +kernel
theorem dX8_shareOfDebt_13 : decode cX8_shareOfDebt 13 = .ok (.aload_n 0, 1) := by decide +kernel
theorem dX8_shareOfDebt_14 : decode cX8_shareOfDebt 14 = .ok (.getfield 40, 3) := by decide +kernel
theorem dX8_shareOfDebt_17 : decode cX8_shareOfDebt 17 = .ok (.invokevirtual 350, 3) := by decide +kernel
theorem dX8_shareOfDebt_20 : decode cX8_shareOfDebt 20 = .ok (.invokevirtual 217, 3) := by decide +kernel
theorem dX8_shareOfDebt_23 : decode cX8_shareOfDebt 23 = .ok (.areturn, 1) := by decide +kernel
theorem dX8_shareOfCost_0 : decode cX8_shareOfCost 0 = .ok (.aload_n 0, 1) := by decide +kernel
theorem dX8_shareOfCost_1 : decode cX8_shareOfCost 1 = .ok (.getfield 63, 3) := by decide +kernel
theorem dX8_shareOfCost_4 : decode cX8_shareOfCost 4 = .ok (.lload_n 1, 1) := by decide +kernel
theorem dX8_shareOfCost_5 : decode cX8_shareOfCost 5 = .ok (.aload_n 0, 1) := by decide +kernel
theorem dX8_shareOfCost_6 : decode cX8_shareOfCost 6 = .ok (.getfield 40, 3) := by decide +kernel
theorem dX8_shareOfCost_9 : decode cX8_shareOfCost 9 = .ok (.invokevirtual 350, 3) := by decide +kernel
theorem dX8_shareOfCost_12 : decode cX8_shareOfCost 12 = .ok (.invokevirtual 217, 3) := by decide +kernel
theorem dX8_shareOfCost_15 : decode cX8_shareOfCost 15 = .ok (.areturn, 1) := by decide +kernel
theorem dX8_restTold_0 : decode cX8_restTold 0 = .ok (.iload_n 1, 1) := by decide +kernel
theorem dX8_restTold_1 : decode cX8_restTold 1 = .ok (.iconst (-1), 1) := by decide +kernel
theorem dX8_restTold_2 : decode cX8_restTold 2 = .ok (.if_icmp .ne 11, 3) := by decide +kernel
theorem dX8_restTold_5 : decode cX8_restTold 5 = .ok (.aload_n 0, 1) := by decide +kernel
theorem dX8_restTold_6 : decode cX8_restTold 6 = .ok (.getfield 49, 3) := by decide +kernel
theorem dX8_restTold_9 : decode cX8_restTold 9 = .ok (.getfield 353, 3) := by decide +kernel
theorem dX8_restTold_12 : decode cX8_restTold 12 = .ok (.ireturn, 1) := by decide +kernel
theorem dX8_restTold_13 : decode cX8_restTold 13 = .ok (.iload_n 2, 1) := by decide +kernel
theorem dX8_restTold_14 : decode cX8_restTold 14 = .ok (.ifCond .ne 15, 3) := by decide +kernel
theorem dX8_restTold_17 : decode cX8_restTold 17 = .ok (.aload_n 0, 1) := by decide +kernel
theorem dX8_restTold_18 : decode cX8_restTold 18 = .ok (.getfield 49, 3) := by decide +kernel
theorem dX8_restTold_21 : decode cX8_restTold 21 = .ok (.getfield 356, 3) := by decide +kernel
theorem dX8_restTold_24 : decode cX8_restTold 24 = .ok (.iload_n 1, 1) := by decide +kernel
theorem dX8_restTold_25 : decode cX8_restTold 25 = .ok (.iaload, 1) := by decide +kernel
theorem dX8_restTold_26 : decode cX8_restTold 26 = .ok (.goto 12, 3) := by decide +kernel
theorem dX8_restTold_29 : decode cX8_restTold 29 = .ok (.aload_n 0, 1) := by decide +kernel
theorem dX8_restTold_30 : decode cX8_restTold 30 = .ok (.getfield 49, 3) := by decide +kernel
theorem dX8_restTold_33 : decode cX8_restTold 33 = .ok (.getfield 359, 3) := by decide +kernel
theorem dX8_restTold_36 : decode cX8_restTold 36 = .ok (.iload_n 1, 1) := by decide +kernel
theorem dX8_restTold_37 : decode cX8_restTold 37 = .ok (.iaload, 1) := by decide +kernel
theorem dX8_restTold_38 : decode cX8_restTold 38 = .ok (.ireturn, 1) := by decide +kernel
theorem dX8_totalWeight_0 : decode cX8_totalWeight 0 = .ok (.iconst 0, 1) := by decide +kernel
theorem dX8_totalWeight_1 : decode cX8_totalWeight 1 = .ok (.istore_n 1, 1) := by decide +kernel
theorem dX8_totalWeight_2 : decode cX8_totalWeight 2 = .ok (.aload_n 0, 1) := by decide +kernel
theorem dX8_totalWeight_3 : decode cX8_totalWeight 3 = .ok (.getfield 23, 3) := by decide +kernel
theorem dX8_totalWeight_6 : decode cX8_totalWeight 6 = .ok (.astore_n 2, 1) := by decide +kernel
theorem dX8_totalWeight_7 : decode cX8_totalWeight 7 = .ok (.aload_n 2, 1) := by decide +kernel
theorem dX8_totalWeight_8 : decode cX8_totalWeight 8 = .ok (.arraylength, 1) := by decide +kernel
theorem dX8_totalWeight_9 : decode cX8_totalWeight 9 = .ok (.istore_n 3, 1) := by decide +kernel
theorem dX8_totalWeight_10 : decode cX8_totalWeight 10 = .ok (.iconst 0, 1) := by decide +kernel
theorem dX8_totalWeight_11 : decode cX8_totalWeight 11 = .ok (.istore 4, 2) := by decide +kernel
theorem dX8_totalWeight_13 : decode cX8_totalWeight 13 = .ok (.iload 4, 2) := by decide +kernel
theorem dX8_totalWeight_15 : decode cX8_totalWeight 15 = .ok (.iload_n 3, 1) := by decide +kernel
theorem dX8_totalWeight_16 : decode cX8_totalWeight 16 = .ok (.if_icmp .ge 20, 3) := by decide +kernel
theorem dX8_totalWeight_19 : decode cX8_totalWeight 19 = .ok (.aload_n 2, 1) := by decide +kernel
theorem dX8_totalWeight_20 : decode cX8_totalWeight 20 = .ok (.iload 4, 2) := by decide +kernel
theorem dX8_totalWeight_22 : decode cX8_totalWeight 22 = .ok (.iaload, 1) := by decide +kernel
theorem dX8_totalWeight_23 : decode cX8_totalWeight 23 = .ok (.istore 5, 2) := by decide +kernel
theorem dX8_totalWeight_25 : decode cX8_totalWeight 25 = .ok (.iload_n 1, 1) := by decide +kernel
theorem dX8_totalWeight_26 : decode cX8_totalWeight 26 = .ok (.iload 5, 2) := by decide +kernel
theorem dX8_totalWeight_28 : decode cX8_totalWeight 28 = .ok (.iadd, 1) := by decide +kernel
theorem dX8_totalWeight_29 : decode cX8_totalWeight 29 = .ok (.istore_n 1, 1) := by decide +kernel
theorem dX8_totalWeight_30 : decode cX8_totalWeight 30 = .ok (.iinc 4 1, 3) := by decide +kernel
theorem dX8_totalWeight_33 : decode cX8_totalWeight 33 = .ok (.goto (-20), 3) := by decide +kernel
theorem dX8_totalWeight_36 : decode cX8_totalWeight 36 = .ok (.iload_n 1, 1) := by decide +kernel
theorem dX8_totalWeight_37 : decode cX8_totalWeight 37 = .ok (.ireturn, 1) := by decide +kernel
