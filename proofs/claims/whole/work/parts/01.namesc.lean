theorem dX8_go_93 : decode cX8_go 93 = .ok (.getfield 137, 3) := by decide +kernel
theorem dX8_go_96 : decode cX8_go 96 = .ok (.ireturn, 1) := by decide +kernel
theorem dX8_rule_0 : decode cX8_rule 0 = .ok (.aload_n 0, 1) := by decide +kernel
theorem dX8_rule_1 : decode cX8_rule 1 = .ok (.getfield 25, 3) := by decide +kernel
theorem dX8_rule_4 : decode cX8_rule 4 = .ok (.getfield 134, 3) := by decide +kernel
theorem dX8_rule_7 : decode cX8_rule 7 = .ok (.ifCond .ne 6, 3) := by decide +kernel
theorem dX8_rule_10 : decode cX8_rule 10 = .ok (.ldc 143, 2) := by decide +kernel
theorem dX8_rule_12 : decode cX8_rule 12 = .ok (.ireturn, 1) := by decide +kernel
theorem dX8_rule_13 : decode cX8_rule 13 = .ok (.iload_n 1, 1) := by decide +kernel
theorem dX8_rule_14 : decode cX8_rule 14 = .ok (.iconst 4, 1) := by decide +kernel
theorem dX8_rule_15 : decode cX8_rule 15 = .ok (.invokestatic 58, 3) := by decide +kernel
theorem dX8_rule_18 : decode cX8_rule 18 = .ok (.ifCond .eq 12, 3) := by decide +kernel
theorem dX8_rule_21 : decode cX8_rule 21 = .ok (.iload_n 2, 1) := by decide +kernel
theorem dX8_rule_22 : decode cX8_rule 22 = .ok (.bipush 31, 2) := by decide +kernel
theorem dX8_rule_24 : decode cX8_rule 24 = .ok (.invokestatic 58, 3) := by decide +kernel
theorem dX8_rule_27 : decode cX8_rule 27 = .ok (.ifCond .ne 6, 3) := by decide +kernel
theorem dX8_rule_30 : decode cX8_rule 30 = .ok (.ldc 62, 2) := by decide +kernel
theorem dX8_rule_32 : decode cX8_rule 32 = .ok (.ireturn, 1) := by decide +kernel
theorem dX8_rule_33 : decode cX8_rule 33 = .ok (.bipush 31, 2) := by decide +kernel
theorem dX8_rule_35 : decode cX8_rule 35 = .ok (.aload_n 0, 1) := by decide +kernel
theorem dX8_rule_36 : decode cX8_rule 36 = .ok (.getfield 25, 3) := by decide +kernel
theorem dX8_rule_39 : decode cX8_rule 39 = .ok (.getfield 147, 3) := by decide +kernel
theorem dX8_rule_42 : decode cX8_rule 42 = .ok (.imul, 1) := by decide +kernel
theorem dX8_rule_43 : decode cX8_rule 43 = .ok (.aload_n 0, 1) := by decide +kernel
theorem dX8_rule_44 : decode cX8_rule 44 = .ok (.getfield 25, 3) := by decide +kernel
theorem dX8_rule_47 : decode cX8_rule 47 = .ok (.getfield 150, 3) := by decide +kernel
theorem dX8_rule_50 : decode cX8_rule 50 = .ok (.iadd, 1) := by decide +kernel
theorem dX8_rule_51 : decode cX8_rule 51 = .ok (.istore_n 3, 1) := by decide +kernel
theorem dX8_rule_52 : decode cX8_rule 52 = .ok (.aload_n 0, 1) := by decide +kernel
theorem dX8_rule_53 : decode cX8_rule 53 = .ok (.getfield 39, 3) := by decide +kernel
theorem dX8_rule_56 : decode cX8_rule 56 = .ok (.aload_n 0, 1) := by decide +kernel
theorem dX8_rule_57 : decode cX8_rule 57 = .ok (.getfield 25, 3) := by decide +kernel
theorem dX8_rule_60 : decode cX8_rule 60 = .ok (.invokevirtual 144, 3) := by decide +kernel
theorem dX8_rule_63 : decode cX8_rule 63 = .ok (.aload_n 0, 1) := by decide +kernel
theorem dX8_rule_64 : decode cX8_rule 64 = .ok (.getfield 25, 3) := by decide +kernel
theorem dX8_rule_67 : decode cX8_rule 67 = .ok (.iload_n 1, 1) := by decide +kernel
theorem dX8_rule_68 : decode cX8_rule 68 = .ok (.putfield 147, 3) := by decide +kernel
theorem dX8_rule_71 : decode cX8_rule 71 = .ok (.aload_n 0, 1) := by decide +kernel
theorem dX8_rule_72 : decode cX8_rule 72 = .ok (.getfield 25, 3) := by decide +kernel
theorem dX8_rule_75 : decode cX8_rule 75 = .ok (.iload_n 2, 1) := by decide +kernel
theorem dX8_rule_76 : decode cX8_rule 76 = .ok (.putfield 150, 3) := by decide +kernel
theorem dX8_rule_79 : decode cX8_rule 79 = .ok (.iload_n 3, 1) := by decide +kernel
theorem dX8_rule_80 : decode cX8_rule 80 = .ok (.ireturn, 1) := by decide +kernel
theorem dX8_give_0 : decode cX8_give 0 = .ok (.aload_n 0, 1) := by decide +kernel
theorem dX8_give_1 : decode cX8_give 1 = .ok (.iload_n 1, 1) := by decide +kernel
theorem dX8_give_2 : decode cX8_give 2 = .ok (.invokevirtual 157, 3) := by decide +kernel
theorem dX8_give_5 : decode cX8_give 5 = .ok (.ifCond .eq 16, 3) := by decide +kernel
theorem dX8_give_8 : decode cX8_give 8 = .ok (.aload_n 0, 1) := by decide +kernel
theorem dX8_give_9 : decode cX8_give 9 = .ok (.iload_n 2, 1) := by decide +kernel
theorem dX8_give_10 : decode cX8_give 10 = .ok (.invokevirtual 157, 3) := by decide +kernel
theorem dX8_give_13 : decode cX8_give 13 = .ok (.ifCond .eq 8, 3) := by decide +kernel
theorem dX8_give_16 : decode cX8_give 16 = .ok (.iload_n 1, 1) := by decide +kernel
theorem dX8_give_17 : decode cX8_give 17 = .ok (.iload_n 2, 1) := by decide +kernel
theorem dX8_give_18 : decode cX8_give 18 = .ok (.if_icmp .ne 6, 3) := by decide +kernel
theorem dX8_give_21 : decode cX8_give 21 = .ok (.ldc 62, 2) := by decide +kernel
theorem dX8_give_23 : decode cX8_give 23 = .ok (.ireturn, 1) := by decide +kernel
theorem dX8_give_24 : decode cX8_give 24 = .ok (.aload_n 0, 1) := by decide +kernel
theorem dX8_give_25 : decode cX8_give 25 = .ok (.getfield 25, 3) := by decide +kernel
theorem dX8_give_28 : decode cX8_give 28 = .ok (.getfield 124, 3) := by decide +kernel
theorem dX8_give_31 : decode cX8_give 31 = .ok (.getfield 161, 3) := by decide +kernel
theorem dX8_give_34 : decode cX8_give 34 = .ok (.iload_n 1, 1) := by decide +kernel
theorem dX8_give_35 : decode cX8_give 35 = .ok (.aaload, 1) := by decide +kernel
theorem dX8_give_36 : decode cX8_give 36 = .ok (.astore_n 3, 1) := by decide +kernel
theorem dX8_give_37 : decode cX8_give 37 = .ok (.aload_n 0, 1) := by decide +kernel
theorem dX8_give_38 : decode cX8_give 38 = .ok (.getfield 25, 3) := by decide +kernel
theorem dX8_give_41 : decode cX8_give 41 = .ok (.getfield 124, 3) := by decide +kernel
theorem dX8_give_44 : decode cX8_give 44 = .ok (.getfield 161, 3) := by decide +kernel
theorem dX8_give_47 : decode cX8_give 47 = .ok (.iload_n 2, 1) := by decide +kernel
theorem dX8_give_48 : decode cX8_give 48 = .ok (.aaload, 1) := by decide +kernel
theorem dX8_give_49 : decode cX8_give 49 = .ok (.astore 4, 2) := by decide +kernel
theorem dX8_give_51 : decode cX8_give 51 = .ok (.aload_n 3, 1) := by decide +kernel
theorem dX8_give_52 : decode cX8_give 52 = .ok (.getfield 165, 3) := by decide +kernel
theorem dX8_give_55 : decode cX8_give 55 = .ok (.aload 4, 2) := by decide +kernel
theorem dX8_give_57 : decode cX8_give 57 = .ok (.getfield 165, 3) := by decide +kernel
theorem dX8_give_60 : decode cX8_give 60 = .ok (.iadd, 1) := by decide +kernel
theorem dX8_give_61 : decode cX8_give 61 = .ok (.istore 5, 2) := by decide +kernel
theorem dX8_give_63 : decode cX8_give 63 = .ok (.iload 5, 2) := by decide +kernel
theorem dX8_give_65 : decode cX8_give 65 = .ok (.bipush 20, 2) := by decide +kernel
theorem dX8_give_67 : decode cX8_give 67 = .ok (.if_icmp .le 6, 3) := by decide +kernel
theorem dX8_give_70 : decode cX8_give 70 = .ok (.ldc 105, 2) := by decide +kernel
theorem dX8_give_72 : decode cX8_give 72 = .ok (.ireturn, 1) := by decide +kernel
theorem dX8_give_73 : decode cX8_give 73 = .ok (.aload_n 0, 1) := by decide +kernel
theorem dX8_give_74 : decode cX8_give 74 = .ok (.getfield 39, 3) := by decide +kernel
theorem dX8_give_77 : decode cX8_give 77 = .ok (.aload_n 0, 1) := by decide +kernel
theorem dX8_give_78 : decode cX8_give 78 = .ok (.getfield 25, 3) := by decide +kernel
theorem dX8_give_81 : decode cX8_give 81 = .ok (.invokevirtual 144, 3) := by decide +kernel
theorem dX8_give_84 : decode cX8_give 84 = .ok (.aload_n 3, 1) := by decide +kernel
theorem dX8_give_85 : decode cX8_give 85 = .ok (.iconst 0, 1) := by decide +kernel
theorem dX8_give_86 : decode cX8_give 86 = .ok (.putfield 165, 3) := by decide +kernel
theorem dX8_give_89 : decode cX8_give 89 = .ok (.aload 4, 2) := by decide +kernel
theorem dX8_give_91 : decode cX8_give 91 = .ok (.iload 5, 2) := by decide +kernel
theorem dX8_give_93 : decode cX8_give 93 = .ok (.putfield 165, 3) := by decide +kernel
theorem dX8_give_96 : decode cX8_give 96 = .ok (.iload 5, 2) := by decide +kernel
theorem dX8_give_98 : decode cX8_give 98 = .ok (.ireturn, 1) := by decide +kernel
theorem dX8_undo_0 : decode cX8_undo 0 = .ok (.aload_n 0, 1) := by decide +kernel
theorem dX8_undo_1 : decode cX8_undo 1 = .ok (.getfield 39, 3) := by decide +kernel
theorem dX8_undo_4 : decode cX8_undo 4 = .ok (.getfield 170, 3) := by decide +kernel
theorem dX8_undo_7 : decode cX8_undo 7 = .ok (.ifCond .ne 6, 3) := by decide +kernel
theorem dX8_undo_10 : decode cX8_undo 10 = .ok (.ldc 143, 2) := by decide +kernel
theorem dX8_undo_12 : decode cX8_undo 12 = .ok (.ireturn, 1) := by decide +kernel
theorem dX8_undo_13 : decode cX8_undo 13 = .ok (.aload_n 0, 1) := by decide +kernel
theorem dX8_undo_14 : decode cX8_undo 14 = .ok (.getfield 39, 3) := by decide +kernel
theorem dX8_undo_17 : decode cX8_undo 17 = .ok (.aload_n 0, 1) := by decide +kernel
theorem dX8_undo_18 : decode cX8_undo 18 = .ok (.getfield 25, 3) := by decide +kernel
theorem dX8_undo_21 : decode cX8_undo 21 = .ok (.invokevirtual 171, 3) := by decide +kernel
theorem dX8_undo_24 : decode cX8_undo 24 = .ok (.aload_n 0, 1) := by decide +kernel
theorem dX8_undo_25 : decode cX8_undo 25 = .ok (.getfield 39, 3) := by decide +kernel
theorem dX8_undo_28 : decode cX8_undo 28 = .ok (.getfield 170, 3) := by decide +kernel
theorem dX8_undo_31 : decode cX8_undo 31 = .ok (.ireturn, 1) := by decide +kernel
theorem dX8_walker_0 : decode cX8_walker 0 = .ok (.aload_n 0, 1) := by decide +kernel
theorem dX8_walker_1 : decode cX8_walker 1 = .ok (.iload_n 1, 1) := by decide +kernel
theorem dX8_walker_2 : decode cX8_walker 2 = .ok (.invokevirtual 157, 3) := by decide +kernel
theorem dX8_walker_5 : decode cX8_walker 5 = .ok (.ifCond .ne 6, 3) := by decide +kernel
theorem dX8_walker_8 : decode cX8_walker 8 = .ok (.ldc 62, 2) := by decide +kernel
theorem dX8_walker_10 : decode cX8_walker 10 = .ok (.ireturn, 1) := by decide +kernel
theorem dX8_walker_11 : decode cX8_walker 11 = .ok (.aload_n 0, 1) := by decide +kernel
theorem dX8_walker_12 : decode cX8_walker 12 = .ok (.getfield 25, 3) := by decide +kernel
theorem dX8_walker_15 : decode cX8_walker 15 = .ok (.getfield 124, 3) := by decide +kernel
theorem dX8_walker_18 : decode cX8_walker 18 = .ok (.getfield 161, 3) := by decide +kernel
theorem dX8_walker_21 : decode cX8_walker 21 = .ok (.iload_n 1, 1) := by decide +kernel
theorem dX8_walker_22 : decode cX8_walker 22 = .ok (.aaload, 1) := by decide +kernel
theorem dX8_walker_23 : decode cX8_walker 23 = .ok (.astore_n 3, 1) := by decide +kernel
theorem dX8_walker_24 : decode cX8_walker 24 = .ok (.iload_n 2, 1) := by decide +kernel
theorem dX8_walker_25 : decode cX8_walker 25 = .ok (.tableswitch 106 0 5 #[39, 44, 49, 54, 59, 64], 39) := by decide +kernel
theorem dX8_walker_64 : decode cX8_walker 64 = .ok (.aload_n 3, 1) := by decide +kernel
theorem dX8_walker_65 : decode cX8_walker 65 = .ok (.getfield 174, 3) := by decide +kernel
theorem dX8_walker_68 : decode cX8_walker 68 = .ok (.ireturn, 1) := by decide +kernel
theorem dX8_walker_69 : decode cX8_walker 69 = .ok (.aload_n 3, 1) := by decide +kernel
theorem dX8_walker_70 : decode cX8_walker 70 = .ok (.getfield 165, 3) := by decide +kernel
theorem dX8_walker_73 : decode cX8_walker 73 = .ok (.ireturn, 1) := by decide +kernel
theorem dX8_walker_74 : decode cX8_walker 74 = .ok (.aload_n 3, 1) := by decide +kernel
theorem dX8_walker_75 : decode cX8_walker 75 = .ok (.getfield 177, 3) := by decide +kernel
theorem dX8_walker_78 : decode cX8_walker 78 = .ok (.ireturn, 1) := by decide +kernel
theorem dX8_walker_79 : decode cX8_walker 79 = .ok (.aload_n 3, 1) := by decide +kernel
theorem dX8_walker_80 : decode cX8_walker 80 = .ok (.getfield 180, 3) := by decide +kernel
theorem dX8_walker_83 : decode cX8_walker 83 = .ok (.ireturn, 1) := by decide +kernel
theorem dX8_walker_84 : decode cX8_walker 84 = .ok (.aload_n 3, 1) := by decide +kernel
theorem dX8_walker_85 : decode cX8_walker 85 = .ok (.getfield 183, 3) := by decide +kernel
theorem dX8_walker_88 : decode cX8_walker 88 = .ok (.ireturn, 1) := by decide +kernel
theorem dX8_walker_89 : decode cX8_walker 89 = .ok (.aload_n 0, 1) := by decide +kernel
theorem dX8_walker_90 : decode cX8_walker 90 = .ok (.getfield 25, 3) := by decide +kernel
theorem dX8_walker_93 : decode cX8_walker 93 = .ok (.getfield 137, 3) := by decide +kernel
theorem dX8_walker_96 : decode cX8_walker 96 = .ok (.aload_n 0, 1) := by decide +kernel
theorem dX8_walker_97 : decode cX8_walker 97 = .ok (.getfield 25, 3) := by decide +kernel
theorem dX8_walker_100 : decode cX8_walker 100 = .ok (.getfield 140, 3) := by decide +kernel
theorem dX8_walker_103 : decode cX8_walker 103 = .ok (.if_icmp .ge 25, 3) := by decide +kernel
theorem dX8_walker_106 : decode cX8_walker 106 = .ok (.aload_n 3, 1) := by decide +kernel
theorem dX8_walker_107 : decode cX8_walker 107 = .ok (.aload_n 0, 1) := by decide +kernel
theorem dX8_walker_108 : decode cX8_walker 108 = .ok (.getfield 25, 3) := by decide +kernel
theorem dX8_walker_111 : decode cX8_walker 111 = .ok (.getfield 186, 3) := by decide +kernel
theorem dX8_walker_114 : decode cX8_walker 114 = .ok (.aload_n 0, 1) := by decide +kernel
theorem dX8_walker_115 : decode cX8_walker 115 = .ok (.getfield 25, 3) := by decide +kernel
theorem dX8_walker_118 : decode cX8_walker 118 = .ok (.getfield 137, 3) := by decide +kernel
theorem dX8_walker_121 : decode cX8_walker 121 = .ok (.iaload, 1) := by decide +kernel
theorem dX8_walker_122 : decode cX8_walker 122 = .ok (.invokevirtual 189, 3) := by decide +kernel
theorem dX8_walker_125 : decode cX8_walker 125 = .ok (.goto 5, 3) := by decide +kernel
theorem dX8_walker_128 : decode cX8_walker 128 = .ok (.ldc 192, 2) := by decide +kernel
theorem dX8_walker_130 : decode cX8_walker 130 = .ok (.ireturn, 1) := by decide +kernel
theorem dX8_walker_131 : decode cX8_walker 131 = .ok (.ldc 62, 2) := by decide +kernel
theorem dX8_walker_133 : decode cX8_walker 133 = .ok (.ireturn, 1) := by decide +kernel
theorem dX8_leg_0 : decode cX8_leg 0 = .ok (.iload_n 1, 1) := by decide +kernel
theorem dX8_leg_1 : decode cX8_leg 1 = .ok (.aload_n 0, 1) := by decide +kernel
theorem dX8_leg_2 : decode cX8_leg 2 = .ok (.getfield 25, 3) := by decide +kernel
theorem dX8_leg_5 : decode cX8_leg 5 = .ok (.getfield 140, 3) := by decide +kernel
theorem dX8_leg_8 : decode cX8_leg 8 = .ok (.invokestatic 58, 3) := by decide +kernel
theorem dX8_leg_11 : decode cX8_leg 11 = .ok (.ifCond .eq 15, 3) := by decide +kernel
theorem dX8_leg_14 : decode cX8_leg 14 = .ok (.aload_n 0, 1) := by decide +kernel
theorem dX8_leg_15 : decode cX8_leg 15 = .ok (.getfield 25, 3) := by decide +kernel
theorem dX8_leg_18 : decode cX8_leg 18 = .ok (.getfield 186, 3) := by decide +kernel
theorem dX8_leg_21 : decode cX8_leg 21 = .ok (.iload_n 1, 1) := by decide +kernel
theorem dX8_leg_22 : decode cX8_leg 22 = .ok (.iaload, 1) := by decide +kernel
theorem dX8_leg_23 : decode cX8_leg 23 = .ok (.goto 5, 3) := by decide +kernel
theorem dX8_leg_26 : decode cX8_leg 26 = .ok (.ldc 62, 2) := by decide +kernel
theorem dX8_leg_28 : decode cX8_leg 28 = .ok (.ireturn, 1) := by decide +kernel
theorem dX8_mends_0 : decode cX8_mends 0 = .ok (.iload_n 1, 1) := by decide +kernel
theorem dX8_mends_1 : decode cX8_mends 1 = .ok (.sipush 1000, 3) := by decide +kernel
theorem dX8_mends_4 : decode cX8_mends 4 = .ok (.invokestatic 58, 3) := by decide +kernel
theorem dX8_mends_7 : decode cX8_mends 7 = .ok (.ifCond .eq 10, 3) := by decide +kernel
theorem dX8_mends_10 : decode cX8_mends 10 = .ok (.iload_n 1, 1) := by decide +kernel
theorem dX8_mends_11 : decode cX8_mends 11 = .ok (.invokestatic 193, 3) := by decide +kernel
theorem dX8_mends_14 : decode cX8_mends 14 = .ok (.goto 5, 3) := by decide +kernel
theorem dX8_mends_17 : decode cX8_mends 17 = .ok (.ldc 62, 2) := by decide +kernel
theorem dX8_mends_19 : decode cX8_mends 19 = .ok (.ireturn, 1) := by decide +kernel
theorem dX8_there_0 : decode cX8_there 0 = .ok (.aload_n 0, 1) := by decide +kernel
theorem dX8_there_1 : decode cX8_there 1 = .ok (.iload_n 1, 1) := by decide +kernel
theorem dX8_there_2 : decode cX8_there 2 = .ok (.invokevirtual 157, 3) := by decide +kernel
theorem dX8_there_5 : decode cX8_there 5 = .ok (.ifCond .eq 11, 3) := by decide +kernel
theorem dX8_there_8 : decode cX8_there 8 = .ok (.iload_n 2, 1) := by decide +kernel
theorem dX8_there_9 : decode cX8_there 9 = .ok (.iconst 3, 1) := by decide +kernel
theorem dX8_there_10 : decode cX8_there 10 = .ok (.invokestatic 58, 3) := by decide +kernel
theorem dX8_there_13 : decode cX8_there 13 = .ok (.ifCond .ne 6, 3) := by decide +kernel
theorem dX8_there_16 : decode cX8_there 16 = .ok (.ldc 62, 2) := by decide +kernel
theorem dX8_there_18 : decode cX8_there 18 = .ok (.ireturn, 1) := by decide +kernel
theorem dX8_there_19 : decode cX8_there 19 = .ok (.aload_n 0, 1) := by decide +kernel
theorem dX8_there_20 : decode cX8_there 20 = .ok (.getfield 46, 3) := by decide +kernel
theorem dX8_there_23 : decode cX8_there 23 = .ok (.aload_n 0, 1) := by decide +kernel
theorem dX8_there_24 : decode cX8_there 24 = .ok (.getfield 25, 3) := by decide +kernel
theorem dX8_there_27 : decode cX8_there 27 = .ok (.aload_n 0, 1) := by decide +kernel
theorem dX8_there_28 : decode cX8_there 28 = .ok (.getfield 25, 3) := by decide +kernel
theorem dX8_there_31 : decode cX8_there 31 = .ok (.getfield 147, 3) := by decide +kernel
theorem dX8_there_34 : decode cX8_there 34 = .ok (.aload_n 0, 1) := by decide +kernel
theorem dX8_there_35 : decode cX8_there 35 = .ok (.getfield 25, 3) := by decide +kernel
theorem dX8_there_38 : decode cX8_there 38 = .ok (.getfield 150, 3) := by decide +kernel
theorem dX8_there_41 : decode cX8_there 41 = .ok (.invokevirtual 196, 3) := by decide +kernel
theorem dX8_there_44 : decode cX8_there 44 = .ok (.pop, 1) := by decide +kernel
theorem dX8_there_45 : decode cX8_there 45 = .ok (.aload_n 0, 1) := by decide +kernel
theorem dX8_there_46 : decode cX8_there 46 = .ok (.getfield 46, 3) := by decide +kernel
theorem dX8_there_49 : decode cX8_there 49 = .ok (.getfield 200, 3) := by decide +kernel
theorem dX8_there_52 : decode cX8_there 52 = .ok (.getfield 161, 3) := by decide +kernel
theorem dX8_there_55 : decode cX8_there 55 = .ok (.iload_n 1, 1) := by decide +kernel
theorem dX8_there_56 : decode cX8_there 56 = .ok (.aaload, 1) := by decide +kernel
theorem dX8_there_57 : decode cX8_there 57 = .ok (.astore_n 3, 1) := by decide +kernel
theorem dX8_there_58 : decode cX8_there 58 = .ok (.iload_n 2, 1) := by decide +kernel
theorem dX8_there_59 : decode cX8_there 59 = .ok (.ifCond .ne 8, 3) := by decide +kernel
theorem dX8_there_62 : decode cX8_there 62 = .ok (.aload_n 3, 1) := by decide +kernel
theorem dX8_there_63 : decode cX8_there 63 = .ok (.getfield 180, 3) := by decide +kernel
theorem dX8_there_66 : decode cX8_there 66 = .ok (.ireturn, 1) := by decide +kernel
theorem dX8_there_67 : decode cX8_there 67 = .ok (.iload_n 2, 1) := by decide +kernel
theorem dX8_there_68 : decode cX8_there 68 = .ok (.iconst 1, 1) := by decide +kernel
theorem dX8_there_69 : decode cX8_there 69 = .ok (.if_icmp .ne 10, 3) := by decide +kernel
theorem dX8_there_72 : decode cX8_there 72 = .ok (.aload_n 3, 1) := by decide +kernel
theorem dX8_there_73 : decode cX8_there 73 = .ok (.getfield 183, 3) := by decide +kernel
theorem dX8_there_76 : decode cX8_there 76 = .ok (.goto 7, 3) := by decide +kernel
theorem dX8_there_79 : decode cX8_there 79 = .ok (.aload_n 3, 1) := by decide +kernel
theorem dX8_there_80 : decode cX8_there 80 = .ok (.getfield 177, 3) := by decide +kernel
theorem dX8_there_83 : decode cX8_there 83 = .ok (.ireturn, 1) := by decide +kernel
theorem dX8_allThere_0 : decode cX8_allThere 0 = .ok (.aload_n 0, 1) := by decide +kernel
theorem dX8_allThere_1 : decode cX8_allThere 1 = .ok (.getfield 25, 3) := by decide +kernel
theorem dX8_allThere_4 : decode cX8_allThere 4 = .ok (.getfield 134, 3) := by decide +kernel
theorem dX8_allThere_7 : decode cX8_allThere 7 = .ok (.ifCond .eq 31, 3) := by decide +kernel
theorem dX8_allThere_10 : decode cX8_allThere 10 = .ok (.aload_n 0, 1) := by decide +kernel
theorem dX8_allThere_11 : decode cX8_allThere 11 = .ok (.getfield 46, 3) := by decide +kernel
theorem dX8_allThere_14 : decode cX8_allThere 14 = .ok (.aload_n 0, 1) := by decide +kernel
theorem dX8_allThere_15 : decode cX8_allThere 15 = .ok (.getfield 25, 3) := by decide +kernel
theorem dX8_allThere_18 : decode cX8_allThere 18 = .ok (.aload_n 0, 1) := by decide +kernel
theorem dX8_allThere_19 : decode cX8_allThere 19 = .ok (.getfield 25, 3) := by decide +kernel
theorem dX8_allThere_22 : decode cX8_allThere 22 = .ok (.getfield 147, 3) := by decide +kernel
theorem dX8_allThere_25 : decode cX8_allThere 25 = .ok (.aload_n 0, 1) := by decide +kernel
theorem dX8_allThere_26 : decode cX8_allThere 26 = .ok (.getfield 25, 3) := by decide +kernel
theorem dX8_allThere_29 : decode cX8_allThere 29 = .ok (.getfield 150, 3) := by decide +kernel
theorem dX8_allThere_32 : decode cX8_allThere 32 = .ok (.invokevirtual 196, 3) := by decide +kernel
theorem dX8_allThere_35 : decode cX8_allThere 35 = .ok (.goto 5, 3) := by decide +kernel
theorem dX8_allThere_38 : decode cX8_allThere 38 = .ok (.ldc 143, 2) := by decide +kernel
theorem dX8_allThere_40 : decode cX8_allThere 40 = .ok (.ireturn, 1) := by decide +kernel
theorem dX8_soonest_0 : decode cX8_soonest 0 = .ok (.aload_n 0, 1) := by decide +kernel
theorem dX8_soonest_1 : decode cX8_soonest 1 = .ok (.getfield 25, 3) := by decide +kernel
theorem dX8_soonest_4 : decode cX8_soonest 4 = .ok (.getfield 134, 3) := by decide +kernel
theorem dX8_soonest_7 : decode cX8_soonest 7 = .ok (.ifCond .ne 6, 3) := by decide +kernel
theorem dX8_soonest_10 : decode cX8_soonest 10 = .ok (.ldc 143, 2) := by decide +kernel
theorem dX8_soonest_12 : decode cX8_soonest 12 = .ok (.ireturn, 1) := by decide +kernel
theorem dX8_soonest_13 : decode cX8_soonest 13 = .ok (.iload_n 1, 1) := by decide +kernel
theorem dX8_soonest_14 : decode cX8_soonest 14 = .ok (.iconst 3, 1) := by decide +kernel
theorem dX8_soonest_15 : decode cX8_soonest 15 = .ok (.invokestatic 58, 3) := by decide +kernel
theorem dX8_soonest_18 : decode cX8_soonest 18 = .ok (.ifCond .ne 6, 3) := by decide +kernel
theorem dX8_soonest_21 : decode cX8_soonest 21 = .ok (.ldc 62, 2) := by decide +kernel
theorem dX8_soonest_23 : decode cX8_soonest 23 = .ok (.ireturn, 1) := by decide +kernel
theorem dX8_soonest_24 : decode cX8_soonest 24 = .ok (.aload_n 0, 1) := by decide +kernel
theorem dX8_soonest_25 : decode cX8_soonest 25 = .ok (.getfield 46, 3) := by decide +kernel
theorem dX8_soonest_28 : decode cX8_soonest 28 = .ok (.aload_n 0, 1) := by decide +kernel
theorem dX8_soonest_29 : decode cX8_soonest 29 = .ok (.getfield 25, 3) := by decide +kernel
theorem dX8_soonest_32 : decode cX8_soonest 32 = .ok (.invokevirtual 201, 3) := by decide +kernel
theorem dX8_soonest_35 : decode cX8_soonest 35 = .ok (.aload_n 0, 1) := by decide +kernel
theorem dX8_soonest_36 : decode cX8_soonest 36 = .ok (.getfield 46, 3) := by decide +kernel
theorem dX8_soonest_39 : decode cX8_soonest 39 = .ok (.iload_n 1, 1) := by decide +kernel
theorem dX8_soonest_40 : decode cX8_soonest 40 = .ok (.invokevirtual 204, 3) := by decide +kernel
theorem dX8_soonest_43 : decode cX8_soonest 43 = .ok (.ireturn, 1) := by decide +kernel
theorem dX8_loses_0 : decode cX8_loses 0 = .ok (.aload_n 0, 1) := by decide +kernel
theorem dX8_loses_1 : decode cX8_loses 1 = .ok (.iload_n 1, 1) := by decide +kernel
theorem dX8_loses_2 : decode cX8_loses 2 = .ok (.invokevirtual 157, 3) := by decide +kernel
theorem dX8_loses_5 : decode cX8_loses 5 = .ok (.ifCond .ne 6, 3) := by decide +kernel
theorem dX8_loses_8 : decode cX8_loses 8 = .ok (.ldc 62, 2) := by decide +kernel
theorem dX8_loses_10 : decode cX8_loses 10 = .ok (.ireturn, 1) := by decide +kernel
theorem dX8_loses_11 : decode cX8_loses 11 = .ok (.aload_n 0, 1) := by decide +kernel
theorem dX8_loses_12 : decode cX8_loses 12 = .ok (.getfield 46, 3) := by decide +kernel
theorem dX8_loses_15 : decode cX8_loses 15 = .ok (.getfield 200, 3) := by decide +kernel
theorem dX8_loses_18 : decode cX8_loses 18 = .ok (.getfield 161, 3) := by decide +kernel
theorem dX8_loses_21 : decode cX8_loses 21 = .ok (.iload_n 1, 1) := by decide +kernel
theorem dX8_loses_22 : decode cX8_loses 22 = .ok (.aaload, 1) := by decide +kernel
theorem dX8_loses_23 : decode cX8_loses 23 = .ok (.astore_n 2, 1) := by decide +kernel
theorem dX8_loses_24 : decode cX8_loses 24 = .ok (.aload_n 0, 1) := by decide +kernel
theorem dX8_loses_25 : decode cX8_loses 25 = .ok (.getfield 46, 3) := by decide +kernel
theorem dX8_loses_28 : decode cX8_loses 28 = .ok (.aload_n 0, 1) := by decide +kernel
theorem dX8_loses_29 : decode cX8_loses 29 = .ok (.getfield 25, 3) := by decide +kernel
theorem dX8_loses_32 : decode cX8_loses 32 = .ok (.aload_n 0, 1) := by decide +kernel
theorem dX8_loses_33 : decode cX8_loses 33 = .ok (.getfield 25, 3) := by decide +kernel
theorem dX8_loses_36 : decode cX8_loses 36 = .ok (.getfield 147, 3) := by decide +kernel
theorem dX8_loses_39 : decode cX8_loses 39 = .ok (.aload_n 0, 1) := by decide +kernel
theorem dX8_loses_40 : decode cX8_loses 40 = .ok (.getfield 25, 3) := by decide +kernel
theorem dX8_loses_43 : decode cX8_loses 43 = .ok (.getfield 150, 3) := by decide +kernel
theorem dX8_loses_46 : decode cX8_loses 46 = .ok (.invokevirtual 196, 3) := by decide +kernel
theorem dX8_loses_49 : decode cX8_loses 49 = .ok (.pop, 1) := by decide +kernel
theorem dX8_loses_50 : decode cX8_loses 50 = .ok (.aload_n 2, 1) := by decide +kernel
theorem dX8_loses_51 : decode cX8_loses 51 = .ok (.getfield 180, 3) := by decide +kernel
theorem dX8_loses_54 : decode cX8_loses 54 = .ok (.istore_n 3, 1) := by decide +kernel
theorem dX8_loses_55 : decode cX8_loses 55 = .ok (.aload_n 0, 1) := by decide +kernel
theorem dX8_loses_56 : decode cX8_loses 56 = .ok (.getfield 46, 3) := by decide +kernel
theorem dX8_loses_59 : decode cX8_loses 59 = .ok (.aload_n 0, 1) := by decide +kernel
theorem dX8_loses_60 : decode cX8_loses 60 = .ok (.getfield 25, 3) := by decide +kernel
theorem dX8_loses_63 : decode cX8_loses 63 = .ok (.iconst 3, 1) := by decide +kernel
theorem dX8_loses_64 : decode cX8_loses 64 = .ok (.iconst 0, 1) := by decide +kernel
theorem dX8_loses_65 : decode cX8_loses 65 = .ok (.invokevirtual 196, 3) := by decide +kernel
theorem dX8_loses_68 : decode cX8_loses 68 = .ok (.pop, 1) := by decide +kernel
theorem dX8_loses_69 : decode cX8_loses 69 = .ok (.iload_n 3, 1) := by decide +kernel
theorem dX8_loses_70 : decode cX8_loses 70 = .ok (.aload_n 2, 1) := by decide +kernel
theorem dX8_loses_71 : decode cX8_loses 71 = .ok (.getfield 180, 3) := by decide +kernel
theorem dX8_loses_74 : decode cX8_loses 74 = .ok (.isub, 1) := by decide +kernel
theorem dX8_loses_75 : decode cX8_loses 75 = .ok (.ireturn, 1) := by decide +kernel
theorem dX8_fair_0 : decode cX8_fair 0 = .ok (.aload_n 0, 1) := by decide +kernel
theorem dX8_fair_1 : decode cX8_fair 1 = .ok (.getfield 25, 3) := by decide +kernel
theorem dX8_fair_4 : decode cX8_fair 4 = .ok (.getfield 134, 3) := by decide +kernel
theorem dX8_fair_7 : decode cX8_fair 7 = .ok (.ifCond .ne 6, 3) := by decide +kernel
theorem dX8_fair_10 : decode cX8_fair 10 = .ok (.ldc 143, 2) := by decide +kernel
theorem dX8_fair_12 : decode cX8_fair 12 = .ok (.ireturn, 1) := by decide +kernel
theorem dX8_fair_13 : decode cX8_fair 13 = .ok (.iload_n 1, 1) := by decide +kernel
theorem dX8_fair_14 : decode cX8_fair 14 = .ok (.iconst 3, 1) := by decide +kernel
theorem dX8_fair_15 : decode cX8_fair 15 = .ok (.invokestatic 58, 3) := by decide +kernel
theorem dX8_fair_18 : decode cX8_fair 18 = .ok (.ifCond .ne 6, 3) := by decide +kernel
theorem dX8_fair_21 : decode cX8_fair 21 = .ok (.ldc 62, 2) := by decide +kernel
theorem dX8_fair_23 : decode cX8_fair 23 = .ok (.ireturn, 1) := by decide +kernel
theorem dX8_fair_24 : decode cX8_fair 24 = .ok (.aload_n 0, 1) := by decide +kernel
theorem dX8_fair_25 : decode cX8_fair 25 = .ok (.getfield 25, 3) := by decide +kernel
theorem dX8_fair_28 : decode cX8_fair 28 = .ok (.getfield 124, 3) := by decide +kernel
theorem dX8_fair_31 : decode cX8_fair 31 = .ok (.getfield 128, 3) := by decide +kernel
theorem dX8_fair_34 : decode cX8_fair 34 = .ok (.ifCond .ne 6, 3) := by decide +kernel
theorem dX8_fair_37 : decode cX8_fair 37 = .ok (.ldc 192, 2) := by decide +kernel
theorem dX8_fair_39 : decode cX8_fair 39 = .ok (.ireturn, 1) := by decide +kernel
theorem dX8_fair_40 : decode cX8_fair 40 = .ok (.aload_n 0, 1) := by decide +kernel
theorem dX8_fair_41 : decode cX8_fair 41 = .ok (.getfield 46, 3) := by decide +kernel
theorem dX8_fair_44 : decode cX8_fair 44 = .ok (.aload_n 0, 1) := by decide +kernel
theorem dX8_fair_45 : decode cX8_fair 45 = .ok (.getfield 25, 3) := by decide +kernel
theorem dX8_fair_48 : decode cX8_fair 48 = .ok (.invokevirtual 207, 3) := by decide +kernel
theorem dX8_fair_51 : decode cX8_fair 51 = .ok (.aload_n 0, 1) := by decide +kernel
theorem dX8_fair_52 : decode cX8_fair 52 = .ok (.getfield 46, 3) := by decide +kernel
theorem dX8_fair_55 : decode cX8_fair 55 = .ok (.iload_n 1, 1) := by decide +kernel
theorem dX8_fair_56 : decode cX8_fair 56 = .ok (.invokevirtual 204, 3) := by decide +kernel
theorem dX8_fair_59 : decode cX8_fair 59 = .ok (.ireturn, 1) := by decide +kernel
theorem dX8_sacks_0 : decode cX8_sacks 0 = .ok (.aload_n 0, 1) := by decide +kernel
theorem dX8_sacks_1 : decode cX8_sacks 1 = .ok (.getfield 25, 3) := by decide +kernel
theorem dX8_sacks_4 : decode cX8_sacks 4 = .ok (.getfield 134, 3) := by decide +kernel
theorem dX8_sacks_7 : decode cX8_sacks 7 = .ok (.ifCond .ne 6, 3) := by decide +kernel
theorem dX8_sacks_10 : decode cX8_sacks 10 = .ok (.ldc 143, 2) := by decide +kernel
theorem dX8_sacks_12 : decode cX8_sacks 12 = .ok (.ireturn, 1) := by decide +kernel
theorem dX8_sacks_13 : decode cX8_sacks 13 = .ok (.iload_n 1, 1) := by decide +kernel
theorem dX8_sacks_14 : decode cX8_sacks 14 = .ok (.iconst (-1), 1) := by decide +kernel
theorem dX8_sacks_15 : decode cX8_sacks 15 = .ok (.if_icmp .eq 14, 3) := by decide +kernel
theorem dX8_sacks_18 : decode cX8_sacks 18 = .ok (.aload_n 0, 1) := by decide +kernel
theorem dX8_sacks_19 : decode cX8_sacks 19 = .ok (.iload_n 1, 1) := by decide +kernel
theorem dX8_sacks_20 : decode cX8_sacks 20 = .ok (.invokevirtual 157, 3) := by decide +kernel
theorem dX8_sacks_23 : decode cX8_sacks 23 = .ok (.ifCond .ne 6, 3) := by decide +kernel
theorem dX8_sacks_26 : decode cX8_sacks 26 = .ok (.ldc 62, 2) := by decide +kernel
theorem dX8_sacks_28 : decode cX8_sacks 28 = .ok (.ireturn, 1) := by decide +kernel
theorem dX8_sacks_29 : decode cX8_sacks 29 = .ok (.aload_n 0, 1) := by decide +kernel
theorem dX8_sacks_30 : decode cX8_sacks 30 = .ok (.getfield 46, 3) := by decide +kernel
theorem dX8_sacks_33 : decode cX8_sacks 33 = .ok (.aload_n 0, 1) := by decide +kernel
theorem dX8_sacks_34 : decode cX8_sacks 34 = .ok (.getfield 25, 3) := by decide +kernel
theorem dX8_sacks_37 : decode cX8_sacks 37 = .ok (.invokevirtual 210, 3) := by decide +kernel
theorem dX8_sacks_40 : decode cX8_sacks 40 = .ok (.iload_n 1, 1) := by decide +kernel
theorem dX8_sacks_41 : decode cX8_sacks 41 = .ok (.iconst (-1), 1) := by decide +kernel
theorem dX8_sacks_42 : decode cX8_sacks 42 = .ok (.if_icmp .ne 13, 3) := by decide +kernel
theorem dX8_sacks_45 : decode cX8_sacks 45 = .ok (.aload_n 0, 1) := by decide +kernel
theorem dX8_sacks_46 : decode cX8_sacks 46 = .ok (.getfield 46, 3) := by decide +kernel
theorem dX8_sacks_49 : decode cX8_sacks 49 = .ok (.getfield 213, 3) := by decide +kernel
theorem dX8_sacks_52 : decode cX8_sacks 52 = .ok (.goto 12, 3) := by decide +kernel
theorem dX8_sacks_55 : decode cX8_sacks 55 = .ok (.aload_n 0, 1) := by decide +kernel
theorem dX8_sacks_56 : decode cX8_sacks 56 = .ok (.getfield 46, 3) := by decide +kernel
theorem dX8_sacks_59 : decode cX8_sacks 59 = .ok (.getfield 216, 3) := by decide +kernel
theorem dX8_sacks_62 : decode cX8_sacks 62 = .ok (.iload_n 1, 1) := by decide +kernel
theorem dX8_sacks_63 : decode cX8_sacks 63 = .ok (.iaload, 1) := by decide +kernel
theorem dX8_sacks_64 : decode cX8_sacks 64 = .ok (.ireturn, 1) := by decide +kernel
theorem dX8_parties_0 : decode cX8_parties 0 = .ok (.aload_n 0, 1) := by decide +kernel
theorem dX8_parties_1 : decode cX8_parties 1 = .ok (.getfield 25, 3) := by decide +kernel
theorem dX8_parties_4 : decode cX8_parties 4 = .ok (.getfield 134, 3) := by decide +kernel
theorem dX8_parties_7 : decode cX8_parties 7 = .ok (.ifCond .ne 6, 3) := by decide +kernel
theorem dX8_parties_10 : decode cX8_parties 10 = .ok (.ldc 143, 2) := by decide +kernel
theorem dX8_parties_12 : decode cX8_parties 12 = .ok (.ireturn, 1) := by decide +kernel
theorem dX8_parties_13 : decode cX8_parties 13 = .ok (.iload_n 1, 1) := by decide +kernel
theorem dX8_parties_14 : decode cX8_parties 14 = .ok (.iconst 2, 1) := by decide +kernel
theorem dX8_parties_15 : decode cX8_parties 15 = .ok (.invokestatic 58, 3) := by decide +kernel
theorem dX8_parties_18 : decode cX8_parties 18 = .ok (.ifCond .ne 6, 3) := by decide +kernel
theorem dX8_parties_21 : decode cX8_parties 21 = .ok (.ldc 62, 2) := by decide +kernel
theorem dX8_parties_23 : decode cX8_parties 23 = .ok (.ireturn, 1) := by decide +kernel
theorem dX8_parties_24 : decode cX8_parties 24 = .ok (.aload_n 0, 1) := by decide +kernel
theorem dX8_parties_25 : decode cX8_parties 25 = .ok (.getfield 46, 3) := by decide +kernel
theorem dX8_parties_28 : decode cX8_parties 28 = .ok (.aload_n 0, 1) := by decide +kernel
theorem dX8_parties_29 : decode cX8_parties 29 = .ok (.getfield 25, 3) := by decide +kernel
theorem dX8_parties_32 : decode cX8_parties 32 = .ok (.invokevirtual 219, 3) := by decide +kernel
theorem dX8_parties_35 : decode cX8_parties 35 = .ok (.iload_n 1, 1) := by decide +kernel
theorem dX8_parties_36 : decode cX8_parties 36 = .ok (.ifCond .ne 13, 3) := by decide +kernel
theorem dX8_parties_39 : decode cX8_parties 39 = .ok (.aload_n 0, 1) := by decide +kernel
theorem dX8_parties_40 : decode cX8_parties 40 = .ok (.getfield 46, 3) := by decide +kernel
theorem dX8_parties_43 : decode cX8_parties 43 = .ok (.getfield 222, 3) := by decide +kernel
theorem dX8_parties_46 : decode cX8_parties 46 = .ok (.goto 10, 3) := by decide +kernel
theorem dX8_parties_49 : decode cX8_parties 49 = .ok (.aload_n 0, 1) := by decide +kernel
theorem dX8_parties_50 : decode cX8_parties 50 = .ok (.getfield 46, 3) := by decide +kernel
theorem dX8_parties_53 : decode cX8_parties 53 = .ok (.getfield 213, 3) := by decide +kernel
theorem dX8_parties_56 : decode cX8_parties 56 = .ok (.ireturn, 1) := by decide +kernel
theorem dX8_turn_0 : decode cX8_turn 0 = .ok (.aload_n 0, 1) := by decide +kernel
theorem dX8_turn_1 : decode cX8_turn 1 = .ok (.getfield 25, 3) := by decide +kernel
theorem dX8_turn_4 : decode cX8_turn 4 = .ok (.getfield 134, 3) := by decide +kernel
theorem dX8_turn_7 : decode cX8_turn 7 = .ok (.ifCond .eq 17, 3) := by decide +kernel
theorem dX8_turn_10 : decode cX8_turn 10 = .ok (.aload_n 0, 1) := by decide +kernel
theorem dX8_turn_11 : decode cX8_turn 11 = .ok (.getfield 46, 3) := by decide +kernel
theorem dX8_turn_14 : decode cX8_turn 14 = .ok (.aload_n 0, 1) := by decide +kernel
theorem dX8_turn_15 : decode cX8_turn 15 = .ok (.getfield 25, 3) := by decide +kernel
theorem dX8_turn_18 : decode cX8_turn 18 = .ok (.invokevirtual 225, 3) := by decide +kernel
theorem dX8_turn_21 : decode cX8_turn 21 = .ok (.goto 5, 3) := by decide +kernel
theorem dX8_turn_24 : decode cX8_turn 24 = .ok (.ldc 143, 2) := by decide +kernel
theorem dX8_turn_26 : decode cX8_turn 26 = .ok (.ireturn, 1) := by decide +kernel
theorem dX8_fits_0 : decode cX8_fits 0 = .ok (.aload_n 0, 1) := by decide +kernel
theorem dX8_fits_1 : decode cX8_fits 1 = .ok (.iload_n 1, 1) := by decide +kernel
theorem dX8_fits_2 : decode cX8_fits 2 = .ok (.invokevirtual 157, 3) := by decide +kernel
theorem dX8_fits_5 : decode cX8_fits 5 = .ok (.ifCond .eq 12, 3) := by decide +kernel
theorem dX8_fits_8 : decode cX8_fits 8 = .ok (.iload_n 2, 1) := by decide +kernel
theorem dX8_fits_9 : decode cX8_fits 9 = .ok (.bipush 8, 2) := by decide +kernel
theorem dX8_fits_11 : decode cX8_fits 11 = .ok (.invokestatic 58, 3) := by decide +kernel
theorem dX8_fits_14 : decode cX8_fits 14 = .ok (.ifCond .ne 6, 3) := by decide +kernel
theorem dX8_fits_17 : decode cX8_fits 17 = .ok (.ldc 62, 2) := by decide +kernel
theorem dX8_fits_19 : decode cX8_fits 19 = .ok (.ireturn, 1) := by decide +kernel
theorem dX8_fits_20 : decode cX8_fits 20 = .ok (.iload 4, 2) := by decide +kernel
theorem dX8_fits_22 : decode cX8_fits 22 = .ok (.iconst 1, 1) := by decide +kernel
theorem dX8_fits_23 : decode cX8_fits 23 = .ok (.if_icmp .lt 19, 3) := by decide +kernel
theorem dX8_fits_26 : decode cX8_fits 26 = .ok (.iload 4, 2) := by decide +kernel
theorem dX8_fits_28 : decode cX8_fits 28 = .ok (.bipush 8, 2) := by decide +kernel
theorem dX8_fits_30 : decode cX8_fits 30 = .ok (.if_icmp .gt 12, 3) := by decide +kernel
theorem dX8_fits_33 : decode cX8_fits 33 = .ok (.iload 5, 2) := by decide +kernel
theorem dX8_fits_35 : decode cX8_fits 35 = .ok (.iconst 2, 1) := by decide +kernel
theorem dX8_fits_36 : decode cX8_fits 36 = .ok (.invokestatic 58, 3) := by decide +kernel
theorem dX8_fits_39 : decode cX8_fits 39 = .ok (.ifCond .ne 6, 3) := by decide +kernel
theorem dX8_fits_42 : decode cX8_fits 42 = .ok (.ldc 62, 2) := by decide +kernel
theorem dX8_fits_44 : decode cX8_fits 44 = .ok (.ireturn, 1) := by decide +kernel
theorem dX8_fits_45 : decode cX8_fits 45 = .ok (.iload 4, 2) := by decide +kernel
theorem dX8_fits_47 : decode cX8_fits 47 = .ok (.aload_n 0, 1) := by decide +kernel
theorem dX8_fits_48 : decode cX8_fits 48 = .ok (.getfield 25, 3) := by decide +kernel
theorem dX8_fits_51 : decode cX8_fits 51 = .ok (.getfield 140, 3) := by decide +kernel
theorem dX8_fits_54 : decode cX8_fits 54 = .ok (.aload_n 0, 1) := by decide +kernel
theorem dX8_fits_55 : decode cX8_fits 55 = .ok (.getfield 25, 3) := by decide +kernel
theorem dX8_fits_58 : decode cX8_fits 58 = .ok (.getfield 137, 3) := by decide +kernel
theorem dX8_fits_61 : decode cX8_fits 61 = .ok (.isub, 1) := by decide +kernel
theorem dX8_fits_62 : decode cX8_fits 62 = .ok (.if_icmp .le 6, 3) := by decide +kernel
theorem dX8_fits_65 : decode cX8_fits 65 = .ok (.ldc 143, 2) := by decide +kernel
theorem dX8_fits_67 : decode cX8_fits 67 = .ok (.ireturn, 1) := by decide +kernel
theorem dX8_fits_68 : decode cX8_fits 68 = .ok (.aload_n 0, 1) := by decide +kernel
theorem dX8_fits_69 : decode cX8_fits 69 = .ok (.getfield 11, 3) := by decide +kernel
theorem dX8_fits_72 : decode cX8_fits 72 = .ok (.iload_n 2, 1) := by decide +kernel
theorem dX8_fits_73 : decode cX8_fits 73 = .ok (.aaload, 1) := by decide +kernel
theorem dX8_fits_74 : decode cX8_fits 74 = .ok (.astore 6, 2) := by decide +kernel
theorem dX8_fits_76 : decode cX8_fits 76 = .ok (.aload 6, 2) := by decide +kernel
theorem dX8_fits_78 : decode cX8_fits 78 = .ok (.getfield 74, 3) := by decide +kernel
theorem dX8_fits_81 : decode cX8_fits 81 = .ok (.ifCond .eq 9, 3) := by decide +kernel
theorem dX8_fits_84 : decode cX8_fits 84 = .ok (.aload_n 0, 1) := by decide +kernel
theorem dX8_fits_85 : decode cX8_fits 85 = .ok (.iconst 1, 1) := by decide +kernel
theorem dX8_fits_86 : decode cX8_fits 86 = .ok (.invokevirtual 63, 3) := by decide +kernel
theorem dX8_fits_89 : decode cX8_fits 89 = .ok (.ireturn, 1) := by decide +kernel
theorem dX8_fits_90 : decode cX8_fits 90 = .ok (.aload 6, 2) := by decide +kernel
theorem dX8_fits_92 : decode cX8_fits 92 = .ok (.iload_n 3, 1) := by decide +kernel
theorem dX8_fits_93 : decode cX8_fits 93 = .ok (.iload 4, 2) := by decide +kernel
theorem dX8_fits_95 : decode cX8_fits 95 = .ok (.invokevirtual 89, 3) := by decide +kernel
theorem dX8_fits_98 : decode cX8_fits 98 = .ok (.ifCond .ne 9, 3) := by decide +kernel
theorem dX8_fits_101 : decode cX8_fits 101 = .ok (.aload_n 0, 1) := by decide +kernel
theorem dX8_fits_102 : decode cX8_fits 102 = .ok (.iconst 2, 1) := by decide +kernel
theorem dX8_fits_103 : decode cX8_fits 103 = .ok (.invokevirtual 63, 3) := by decide +kernel
theorem dX8_fits_106 : decode cX8_fits 106 = .ok (.ireturn, 1) := by decide +kernel
theorem dX8_fits_107 : decode cX8_fits 107 = .ok (.aload_n 0, 1) := by decide +kernel
theorem dX8_fits_108 : decode cX8_fits 108 = .ok (.getfield 46, 3) := by decide +kernel
theorem dX8_fits_111 : decode cX8_fits 111 = .ok (.aload_n 0, 1) := by decide +kernel
theorem dX8_fits_112 : decode cX8_fits 112 = .ok (.getfield 25, 3) := by decide +kernel
theorem dX8_fits_115 : decode cX8_fits 115 = .ok (.iload_n 1, 1) := by decide +kernel
theorem dX8_fits_116 : decode cX8_fits 116 = .ok (.aload 6, 2) := by decide +kernel
theorem dX8_fits_118 : decode cX8_fits 118 = .ok (.iload_n 3, 1) := by decide +kernel
theorem dX8_fits_119 : decode cX8_fits 119 = .ok (.iload 4, 2) := by decide +kernel
theorem dX8_fits_121 : decode cX8_fits 121 = .ok (.invokevirtual 229, 3) := by decide +kernel
theorem dX8_fits_124 : decode cX8_fits 124 = .ok (.aload_n 0, 1) := by decide +kernel
theorem dX8_fits_125 : decode cX8_fits 125 = .ok (.iload 5, 2) := by decide +kernel
theorem dX8_fits_127 : decode cX8_fits 127 = .ok (.ifCond .ne 13, 3) := by decide +kernel
theorem dX8_fits_130 : decode cX8_fits 130 = .ok (.aload_n 0, 1) := by decide +kernel
theorem dX8_fits_131 : decode cX8_fits 131 = .ok (.getfield 46, 3) := by decide +kernel
theorem dX8_fits_134 : decode cX8_fits 134 = .ok (.getfield 213, 3) := by decide +kernel
theorem dX8_fits_137 : decode cX8_fits 137 = .ok (.goto 10, 3) := by decide +kernel
theorem dX8_fits_140 : decode cX8_fits 140 = .ok (.aload_n 0, 1) := by decide +kernel
theorem dX8_fits_141 : decode cX8_fits 141 = .ok (.getfield 46, 3) := by decide +kernel
theorem dX8_fits_144 : decode cX8_fits 144 = .ok (.getfield 222, 3) := by decide +kernel
theorem dX8_fits_147 : decode cX8_fits 147 = .ok (.invokevirtual 71, 3) := by decide +kernel
theorem dX8_fits_150 : decode cX8_fits 150 = .ok (.ireturn, 1) := by decide +kernel
theorem dX8_image_0 : decode cX8_image 0 = .ok (.iload_n 1, 1) := by decide +kernel
theorem dX8_image_1 : decode cX8_image 1 = .ok (.aload_n 0, 1) := by decide +kernel
theorem dX8_image_2 : decode cX8_image 2 = .ok (.getfield 32, 3) := by decide +kernel
theorem dX8_image_5 : decode cX8_image 5 = .ok (.arraylength, 1) := by decide +kernel
theorem dX8_image_6 : decode cX8_image 6 = .ok (.invokestatic 58, 3) := by decide +kernel
theorem dX8_image_9 : decode cX8_image 9 = .ok (.ifCond .ne 6, 3) := by decide +kernel
theorem dX8_image_12 : decode cX8_image 12 = .ok (.ldc 62, 2) := by decide +kernel
theorem dX8_image_14 : decode cX8_image 14 = .ok (.ireturn, 1) := by decide +kernel
theorem dX8_image_15 : decode cX8_image 15 = .ok (.aload_n 0, 1) := by decide +kernel
theorem dX8_image_16 : decode cX8_image 16 = .ok (.getfield 25, 3) := by decide +kernel
theorem dX8_image_19 : decode cX8_image 19 = .ok (.getfield 134, 3) := by decide +kernel
theorem dX8_image_22 : decode cX8_image 22 = .ok (.ifCond .ne 6, 3) := by decide +kernel
theorem dX8_image_25 : decode cX8_image 25 = .ok (.ldc 143, 2) := by decide +kernel
theorem dX8_image_27 : decode cX8_image 27 = .ok (.ireturn, 1) := by decide +kernel
theorem dX8_image_28 : decode cX8_image 28 = .ok (.aload_n 0, 1) := by decide +kernel
theorem dX8_image_29 : decode cX8_image 29 = .ok (.getfield 32, 3) := by decide +kernel
theorem dX8_image_32 : decode cX8_image 32 = .ok (.iload_n 1, 1) := by decide +kernel
theorem dX8_image_33 : decode cX8_image 33 = .ok (.aaload, 1) := by decide +kernel
theorem dX8_image_34 : decode cX8_image 34 = .ok (.aload_n 0, 1) := by decide +kernel
theorem dX8_image_35 : decode cX8_image 35 = .ok (.getfield 25, 3) := by decide +kernel
theorem dX8_image_38 : decode cX8_image 38 = .ok (.invokevirtual 117, 3) := by decide +kernel
theorem dX8_image_41 : decode cX8_image 41 = .ok (.iconst 1, 1) := by decide +kernel
theorem dX8_image_42 : decode cX8_image 42 = .ok (.ireturn, 1) := by decide +kernel
theorem dX8_restore_0 : decode cX8_restore 0 = .ok (.iload_n 1, 1) := by decide +kernel
theorem dX8_restore_1 : decode cX8_restore 1 = .ok (.aload_n 0, 1) := by decide +kernel
theorem dX8_restore_2 : decode cX8_restore 2 = .ok (.getfield 32, 3) := by decide +kernel
theorem dX8_restore_5 : decode cX8_restore 5 = .ok (.arraylength, 1) := by decide +kernel
theorem dX8_restore_6 : decode cX8_restore 6 = .ok (.invokestatic 58, 3) := by decide +kernel
theorem dX8_restore_9 : decode cX8_restore 9 = .ok (.ifCond .ne 6, 3) := by decide +kernel
theorem dX8_restore_12 : decode cX8_restore 12 = .ok (.ldc 62, 2) := by decide +kernel
theorem dX8_restore_14 : decode cX8_restore 14 = .ok (.ireturn, 1) := by decide +kernel
theorem dX8_restore_15 : decode cX8_restore 15 = .ok (.aload_n 0, 1) := by decide +kernel
theorem dX8_restore_16 : decode cX8_restore 16 = .ok (.getfield 32, 3) := by decide +kernel
theorem dX8_restore_19 : decode cX8_restore 19 = .ok (.iload_n 1, 1) := by decide +kernel
theorem dX8_restore_20 : decode cX8_restore 20 = .ok (.aaload, 1) := by decide +kernel
theorem dX8_restore_21 : decode cX8_restore 21 = .ok (.getfield 134, 3) := by decide +kernel
theorem dX8_restore_24 : decode cX8_restore 24 = .ok (.ifCond .ne 6, 3) := by decide +kernel
theorem dX8_restore_27 : decode cX8_restore 27 = .ok (.ldc 143, 2) := by decide +kernel
theorem dX8_restore_29 : decode cX8_restore 29 = .ok (.ireturn, 1) := by decide +kernel
theorem dX8_restore_30 : decode cX8_restore 30 = .ok (.aload_n 0, 1) := by decide +kernel
theorem dX8_restore_31 : decode cX8_restore 31 = .ok (.getfield 25, 3) := by decide +kernel
theorem dX8_restore_34 : decode cX8_restore 34 = .ok (.aload_n 0, 1) := by decide +kernel
theorem dX8_restore_35 : decode cX8_restore 35 = .ok (.getfield 32, 3) := by decide +kernel
theorem dX8_restore_38 : decode cX8_restore 38 = .ok (.iload_n 1, 1) := by decide +kernel
theorem dX8_restore_39 : decode cX8_restore 39 = .ok (.aaload, 1) := by decide +kernel
theorem dX8_restore_40 : decode cX8_restore 40 = .ok (.invokevirtual 117, 3) := by decide +kernel
theorem dX8_restore_43 : decode cX8_restore 43 = .ok (.aload_n 0, 1) := by decide +kernel
theorem dX8_restore_44 : decode cX8_restore 44 = .ok (.getfield 39, 3) := by decide +kernel
theorem dX8_restore_47 : decode cX8_restore 47 = .ok (.invokevirtual 121, 3) := by decide +kernel
theorem dX8_restore_50 : decode cX8_restore 50 = .ok (.iconst 1, 1) := by decide +kernel
theorem dX8_restore_51 : decode cX8_restore 51 = .ok (.ireturn, 1) := by decide +kernel
theorem dX8_kind_0 : decode cX8_kind 0 = .ok (.aload_n 0, 1) := by decide +kernel
theorem dX8_kind_1 : decode cX8_kind 1 = .ok (.iload_n 1, 1) := by decide +kernel
theorem dX8_kind_2 : decode cX8_kind 2 = .ok (.invokevirtual 157, 3) := by decide +kernel
theorem dX8_kind_5 : decode cX8_kind 5 = .ok (.ifCond .eq 21, 3) := by decide +kernel
theorem dX8_kind_8 : decode cX8_kind 8 = .ok (.aload_n 0, 1) := by decide +kernel
theorem dX8_kind_9 : decode cX8_kind 9 = .ok (.getfield 25, 3) := by decide +kernel
theorem dX8_kind_12 : decode cX8_kind 12 = .ok (.getfield 124, 3) := by decide +kernel
theorem dX8_kind_15 : decode cX8_kind 15 = .ok (.getfield 161, 3) := by decide +kernel
theorem dX8_kind_18 : decode cX8_kind 18 = .ok (.iload_n 1, 1) := by decide +kernel
theorem dX8_kind_19 : decode cX8_kind 19 = .ok (.aaload, 1) := by decide +kernel
theorem dX8_kind_20 : decode cX8_kind 20 = .ok (.getfield 233, 3) := by decide +kernel
theorem dX8_kind_23 : decode cX8_kind 23 = .ok (.goto 5, 3) := by decide +kernel
theorem dX8_kind_26 : decode cX8_kind 26 = .ok (.ldc 62, 2) := by decide +kernel
theorem dX8_kind_28 : decode cX8_kind 28 = .ok (.ireturn, 1) := by decide +kernel
theorem dX8_as_0 : decode cX8_as 0 = .ok (.aload_n 0, 1) := by decide +kernel
theorem dX8_as_1 : decode cX8_as 1 = .ok (.iload_n 1, 1) := by decide +kernel
theorem dX8_as_2 : decode cX8_as 2 = .ok (.invokevirtual 157, 3) := by decide +kernel
theorem dX8_as_5 : decode cX8_as 5 = .ok (.ifCond .eq 12, 3) := by decide +kernel
theorem dX8_as_8 : decode cX8_as 8 = .ok (.iload_n 2, 1) := by decide +kernel
theorem dX8_as_9 : decode cX8_as 9 = .ok (.bipush 6, 2) := by decide +kernel
theorem dX8_as_11 : decode cX8_as 11 = .ok (.invokestatic 58, 3) := by decide +kernel
theorem dX8_as_14 : decode cX8_as 14 = .ok (.ifCond .ne 6, 3) := by decide +kernel
theorem dX8_as_17 : decode cX8_as 17 = .ok (.ldc 62, 2) := by decide +kernel
theorem dX8_as_19 : decode cX8_as 19 = .ok (.ireturn, 1) := by decide +kernel
theorem dX8_as_20 : decode cX8_as 20 = .ok (.aload_n 0, 1) := by decide +kernel
theorem dX8_as_21 : decode cX8_as 21 = .ok (.getfield 25, 3) := by decide +kernel
theorem dX8_as_24 : decode cX8_as 24 = .ok (.getfield 124, 3) := by decide +kernel
theorem dX8_as_27 : decode cX8_as 27 = .ok (.getfield 161, 3) := by decide +kernel
theorem dX8_as_30 : decode cX8_as 30 = .ok (.iload_n 1, 1) := by decide +kernel
theorem dX8_as_31 : decode cX8_as 31 = .ok (.aaload, 1) := by decide +kernel
theorem dX8_as_32 : decode cX8_as 32 = .ok (.getfield 233, 3) := by decide +kernel
theorem dX8_as_35 : decode cX8_as 35 = .ok (.iload_n 2, 1) := by decide +kernel
theorem dX8_as_36 : decode cX8_as 36 = .ok (.invokestatic 236, 3) := by decide +kernel
theorem dX8_as_39 : decode cX8_as 39 = .ok (.ifCond .ne 9, 3) := by decide +kernel
theorem dX8_as_42 : decode cX8_as 42 = .ok (.aload_n 0, 1) := by decide +kernel
theorem dX8_as_43 : decode cX8_as 43 = .ok (.iconst 3, 1) := by decide +kernel
theorem dX8_as_44 : decode cX8_as 44 = .ok (.invokevirtual 63, 3) := by decide +kernel
theorem dX8_as_47 : decode cX8_as 47 = .ok (.ireturn, 1) := by decide +kernel
theorem dX8_as_48 : decode cX8_as 48 = .ok (.aload_n 0, 1) := by decide +kernel
theorem dX8_as_49 : decode cX8_as 49 = .ok (.iload_n 1, 1) := by decide +kernel
theorem dX8_as_50 : decode cX8_as 50 = .ok (.invokevirtual 71, 3) := by decide +kernel
theorem dX8_as_53 : decode cX8_as 53 = .ok (.ireturn, 1) := by decide +kernel
theorem dX8_ask_0 : decode cX8_ask 0 = .ok (.aload_n 0, 1) := by decide +kernel
theorem dX8_ask_1 : decode cX8_ask 1 = .ok (.iload_n 1, 1) := by decide +kernel
theorem dX8_ask_2 : decode cX8_ask 2 = .ok (.invokevirtual 157, 3) := by decide +kernel
theorem dX8_ask_5 : decode cX8_ask 5 = .ok (.ifCond .eq 11, 3) := by decide +kernel
theorem dX8_ask_8 : decode cX8_ask 8 = .ok (.iload_n 2, 1) := by decide +kernel
theorem dX8_ask_9 : decode cX8_ask 9 = .ok (.iconst 2, 1) := by decide +kernel
theorem dX8_ask_10 : decode cX8_ask 10 = .ok (.invokestatic 58, 3) := by decide +kernel
theorem dX8_ask_13 : decode cX8_ask 13 = .ok (.ifCond .ne 6, 3) := by decide +kernel
theorem dX8_ask_16 : decode cX8_ask 16 = .ok (.ldc 62, 2) := by decide +kernel
theorem dX8_ask_18 : decode cX8_ask 18 = .ok (.ireturn, 1) := by decide +kernel
theorem dX8_ask_19 : decode cX8_ask 19 = .ok (.aload_n 0, 1) := by decide +kernel
theorem dX8_ask_20 : decode cX8_ask 20 = .ok (.getfield 53, 3) := by decide +kernel
theorem dX8_ask_23 : decode cX8_ask 23 = .ok (.aload_n 0, 1) := by decide +kernel
theorem dX8_ask_24 : decode cX8_ask 24 = .ok (.getfield 25, 3) := by decide +kernel
theorem dX8_ask_27 : decode cX8_ask 27 = .ok (.getfield 124, 3) := by decide +kernel
theorem dX8_ask_30 : decode cX8_ask 30 = .ok (.getfield 161, 3) := by decide +kernel
theorem dX8_ask_33 : decode cX8_ask 33 = .ok (.iload_n 1, 1) := by decide +kernel
theorem dX8_ask_34 : decode cX8_ask 34 = .ok (.aaload, 1) := by decide +kernel
theorem dX8_ask_35 : decode cX8_ask 35 = .ok (.iload_n 1, 1) := by decide +kernel
theorem dX8_ask_36 : decode cX8_ask 36 = .ok (.iload_n 2, 1) := by decide +kernel
theorem dX8_ask_37 : decode cX8_ask 37 = .ok (.invokevirtual 239, 3) := by decide +kernel
theorem dX8_ask_40 : decode cX8_ask 40 = .ok (.ireturn, 1) := by decide +kernel
theorem dX8_trace_0 : decode cX8_trace 0 = .ok (.iload_n 1, 1) := by decide +kernel
theorem dX8_trace_1 : decode cX8_trace 1 = .ok (.aload_n 0, 1) := by decide +kernel
theorem dX8_trace_2 : decode cX8_trace 2 = .ok (.getfield 53, 3) := by decide +kernel
theorem dX8_trace_5 : decode cX8_trace 5 = .ok (.getfield 243, 3) := by decide +kernel
theorem dX8_trace_8 : decode cX8_trace 8 = .ok (.invokestatic 58, 3) := by decide +kernel
theorem dX8_trace_11 : decode cX8_trace 11 = .ok (.ifCond .eq 15, 3) := by decide +kernel
theorem dX8_trace_14 : decode cX8_trace 14 = .ok (.aload_n 0, 1) := by decide +kernel
theorem dX8_trace_15 : decode cX8_trace 15 = .ok (.getfield 53, 3) := by decide +kernel
theorem dX8_trace_18 : decode cX8_trace 18 = .ok (.getfield 244, 3) := by decide +kernel
theorem dX8_trace_21 : decode cX8_trace 21 = .ok (.iload_n 1, 1) := by decide +kernel
theorem dX8_trace_22 : decode cX8_trace 22 = .ok (.iaload, 1) := by decide +kernel
theorem dX8_trace_23 : decode cX8_trace 23 = .ok (.goto 5, 3) := by decide +kernel
theorem dX8_trace_26 : decode cX8_trace 26 = .ok (.ldc 192, 2) := by decide +kernel
theorem dX8_trace_28 : decode cX8_trace 28 = .ok (.ireturn, 1) := by decide +kernel
theorem dX8_count_0 : decode cX8_count 0 = .ok (.iload_n 1, 1) := by decide +kernel
theorem dX8_count_1 : decode cX8_count 1 = .ok (.tableswitch 123 0 8 #[51, 56, 64, 75, 83, 91, 99, 107, 115], 51) := by decide +kernel
theorem dX8_count_52 : decode cX8_count 52 = .ok (.aload_n 0, 1) := by decide +kernel
theorem dX8_count_53 : decode cX8_count 53 = .ok (.invokevirtual 247, 3) := by decide +kernel
theorem dX8_count_56 : decode cX8_count 56 = .ok (.ireturn, 1) := by decide +kernel
theorem dX8_count_57 : decode cX8_count 57 = .ok (.aload_n 0, 1) := by decide +kernel
theorem dX8_count_58 : decode cX8_count 58 = .ok (.getfield 25, 3) := by decide +kernel
theorem dX8_count_61 : decode cX8_count 61 = .ok (.getfield 140, 3) := by decide +kernel
theorem dX8_count_64 : decode cX8_count 64 = .ok (.ireturn, 1) := by decide +kernel
theorem dX8_count_65 : decode cX8_count 65 = .ok (.aload_n 0, 1) := by decide +kernel
theorem dX8_count_66 : decode cX8_count 66 = .ok (.getfield 25, 3) := by decide +kernel
theorem dX8_count_69 : decode cX8_count 69 = .ok (.getfield 124, 3) := by decide +kernel
theorem dX8_count_72 : decode cX8_count 72 = .ok (.getfield 128, 3) := by decide +kernel
theorem dX8_count_75 : decode cX8_count 75 = .ok (.ireturn, 1) := by decide +kernel
theorem dX8_count_76 : decode cX8_count 76 = .ok (.aload_n 0, 1) := by decide +kernel
theorem dX8_count_77 : decode cX8_count 77 = .ok (.getfield 25, 3) := by decide +kernel
theorem dX8_count_80 : decode cX8_count 80 = .ok (.getfield 137, 3) := by decide +kernel
theorem dX8_count_83 : decode cX8_count 83 = .ok (.ireturn, 1) := by decide +kernel
theorem dX8_count_84 : decode cX8_count 84 = .ok (.aload_n 0, 1) := by decide +kernel
theorem dX8_count_85 : decode cX8_count 85 = .ok (.getfield 25, 3) := by decide +kernel
theorem dX8_count_88 : decode cX8_count 88 = .ok (.getfield 147, 3) := by decide +kernel
theorem dX8_count_91 : decode cX8_count 91 = .ok (.ireturn, 1) := by decide +kernel
theorem dX8_count_92 : decode cX8_count 92 = .ok (.aload_n 0, 1) := by decide +kernel
theorem dX8_count_93 : decode cX8_count 93 = .ok (.getfield 25, 3) := by decide +kernel
theorem dX8_count_96 : decode cX8_count 96 = .ok (.getfield 150, 3) := by decide +kernel
theorem dX8_count_99 : decode cX8_count 99 = .ok (.ireturn, 1) := by decide +kernel
theorem dX8_count_100 : decode cX8_count 100 = .ok (.aload_n 0, 1) := by decide +kernel
theorem dX8_count_101 : decode cX8_count 101 = .ok (.getfield 25, 3) := by decide +kernel
theorem dX8_count_104 : decode cX8_count 104 = .ok (.getfield 251, 3) := by decide +kernel
theorem dX8_count_107 : decode cX8_count 107 = .ok (.ireturn, 1) := by decide +kernel
theorem dX8_count_108 : decode cX8_count 108 = .ok (.aload_n 0, 1) := by decide +kernel
theorem dX8_count_109 : decode cX8_count 109 = .ok (.getfield 39, 3) := by decide +kernel
theorem dX8_count_112 : decode cX8_count 112 = .ok (.getfield 170, 3) := by decide +kernel
theorem dX8_count_115 : decode cX8_count 115 = .ok (.ireturn, 1) := by decide +kernel
theorem dX8_count_116 : decode cX8_count 116 = .ok (.aload_n 0, 1) := by decide +kernel
theorem dX8_count_117 : decode cX8_count 117 = .ok (.getfield 18, 3) := by decide +kernel
theorem dX8_count_120 : decode cX8_count 120 = .ok (.getfield 102, 3) := by decide +kernel
theorem dX8_count_123 : decode cX8_count 123 = .ok (.ireturn, 1) := by decide +kernel
theorem dX8_count_124 : decode cX8_count 124 = .ok (.ldc 62, 2) := by decide +kernel
theorem dX8_count_126 : decode cX8_count 126 = .ok (.ireturn, 1) := by decide +kernel
theorem dX8_status_0 : decode cX8_status 0 = .ok (.aload_n 0, 1) := by decide +kernel
theorem dX8_status_1 : decode cX8_status 1 = .ok (.getfield 254, 3) := by decide +kernel
theorem dX8_status_4 : decode cX8_status 4 = .ok (.ireturn, 1) := by decide +kernel
theorem dX8_countRows_0 : decode cX8_countRows 0 = .ok (.iconst 0, 1) := by decide +kernel
theorem dX8_countRows_1 : decode cX8_countRows 1 = .ok (.istore_n 1, 1) := by decide +kernel
theorem dX8_countRows_2 : decode cX8_countRows 2 = .ok (.iconst 0, 1) := by decide +kernel
theorem dX8_countRows_3 : decode cX8_countRows 3 = .ok (.istore_n 2, 1) := by decide +kernel
theorem dX8_countRows_4 : decode cX8_countRows 4 = .ok (.iload_n 2, 1) := by decide +kernel
theorem dX8_countRows_5 : decode cX8_countRows 5 = .ok (.aload_n 0, 1) := by decide +kernel
theorem dX8_countRows_6 : decode cX8_countRows 6 = .ok (.getfield 11, 3) := by decide +kernel
theorem dX8_countRows_9 : decode cX8_countRows 9 = .ok (.arraylength, 1) := by decide +kernel
theorem dX8_countRows_10 : decode cX8_countRows 10 = .ok (.if_icmp .ge 24, 3) := by decide +kernel
theorem dX8_countRows_13 : decode cX8_countRows 13 = .ok (.aload_n 0, 1) := by decide +kernel
theorem dX8_countRows_14 : decode cX8_countRows 14 = .ok (.getfield 11, 3) := by decide +kernel
theorem dX8_countRows_17 : decode cX8_countRows 17 = .ok (.iload_n 2, 1) := by decide +kernel
theorem dX8_countRows_18 : decode cX8_countRows 18 = .ok (.aaload, 1) := by decide +kernel
theorem dX8_countRows_19 : decode cX8_countRows 19 = .ok (.getfield 74, 3) := by decide +kernel
theorem dX8_countRows_22 : decode cX8_countRows 22 = .ok (.ifCond .ne 6, 3) := by decide +kernel
theorem dX8_countRows_25 : decode cX8_countRows 25 = .ok (.iinc 1 1, 3) := by decide +kernel
theorem dX8_countRows_28 : decode cX8_countRows 28 = .ok (.iinc 2 1, 3) := by decide +kernel
theorem dX8_countRows_31 : decode cX8_countRows 31 = .ok (.goto (-27), 3) := by decide +kernel
theorem dX8_countRows_34 : decode cX8_countRows 34 = .ok (.iload_n 1, 1) := by decide +kernel
theorem dX8_countRows_35 : decode cX8_countRows 35 = .ok (.ireturn, 1) := by decide +kernel
theorem dX8_isWalker_0 : decode cX8_isWalker 0 = .ok (.iload_n 1, 1) := by decide +kernel
theorem dX8_isWalker_1 : decode cX8_isWalker 1 = .ok (.aload_n 0, 1) := by decide +kernel
theorem dX8_isWalker_2 : decode cX8_isWalker 2 = .ok (.getfield 25, 3) := by decide +kernel
theorem dX8_isWalker_5 : decode cX8_isWalker 5 = .ok (.getfield 124, 3) := by decide +kernel
theorem dX8_isWalker_8 : decode cX8_isWalker 8 = .ok (.getfield 128, 3) := by decide +kernel
theorem dX8_isWalker_11 : decode cX8_isWalker 11 = .ok (.invokestatic 58, 3) := by decide +kernel
theorem dX8_isWalker_14 : decode cX8_isWalker 14 = .ok (.ireturn, 1) := by decide +kernel
theorem dX8_found_0 : decode cX8_found 0 = .ok (.aload_n 0, 1) := by decide +kernel
theorem dX8_found_1 : decode cX8_found 1 = .ok (.iload_n 1, 1) := by decide +kernel
theorem dX8_found_2 : decode cX8_found 2 = .ok (.putfield 254, 3) := by decide +kernel
theorem dX8_found_5 : decode cX8_found 5 = .ok (.ldc_w 257, 3) := by decide +kernel
theorem dX8_found_8 : decode cX8_found 8 = .ok (.iload_n 1, 1) := by decide +kernel
theorem dX8_found_9 : decode cX8_found 9 = .ok (.isub, 1) := by decide +kernel
theorem dX8_found_10 : decode cX8_found 10 = .ok (.ireturn, 1) := by decide +kernel
theorem dX8_foundNothing_0 : decode cX8_foundNothing 0 = .ok (.aload_n 0, 1) := by decide +kernel
theorem dX8_foundNothing_1 : decode cX8_foundNothing 1 = .ok (.iconst 0, 1) := by decide +kernel
theorem dX8_foundNothing_2 : decode cX8_foundNothing 2 = .ok (.putfield 254, 3) := by decide +kernel
theorem dX8_foundNothing_5 : decode cX8_foundNothing 5 = .ok (.iload_n 1, 1) := by decide +kernel
theorem dX8_foundNothing_6 : decode cX8_foundNothing 6 = .ok (.ireturn, 1) := by decide +kernel
theorem dX8_isBelow_0 : decode cX8_isBelow 0 = .ok (.iload_n 0, 1) := by decide +kernel
theorem dX8_isBelow_1 : decode cX8_isBelow 1 = .ok (.ifCond .lt 12, 3) := by decide +kernel
theorem dX8_isBelow_4 : decode cX8_isBelow 4 = .ok (.iload_n 0, 1) := by decide +kernel
theorem dX8_isBelow_5 : decode cX8_isBelow 5 = .ok (.iload_n 1, 1) := by decide +kernel
theorem dX8_isBelow_6 : decode cX8_isBelow 6 = .ok (.if_icmp .ge 7, 3) := by decide +kernel
theorem dX8_isBelow_9 : decode cX8_isBelow 9 = .ok (.iconst 1, 1) := by decide +kernel
theorem dX8_isBelow_10 : decode cX8_isBelow 10 = .ok (.goto 4, 3) := by decide +kernel
theorem dX8_isBelow_13 : decode cX8_isBelow 13 = .ok (.iconst 0, 1) := by decide +kernel
theorem dX8_isBelow_14 : decode cX8_isBelow 14 = .ok (.ireturn, 1) := by decide +kernel
theorem dX9_init_0 : decode cX9_init 0 = .ok (.aload_n 0, 1) := by decide +kernel
theorem dX9_init_1 : decode cX9_init 1 = .ok (.invokespecial 1, 3) := by decide +kernel
theorem dX9_init_4 : decode cX9_init 4 = .ok (.aload_n 0, 1) := by decide +kernel
theorem dX9_init_5 : decode cX9_init 5 = .ok (.bipush 8, 2) := by decide +kernel
theorem dX9_init_7 : decode cX9_init 7 = .ok (.newarray .int, 2) := by decide +kernel
theorem dX9_init_9 : decode cX9_init 9 = .ok (.putfield 7, 3) := by decide +kernel
theorem dX9_init_12 : decode cX9_init 12 = .ok (.aload_n 0, 1) := by decide +kernel
theorem dX9_init_13 : decode cX9_init 13 = .ok (.bipush 8, 2) := by decide +kernel
theorem dX9_init_15 : decode cX9_init 15 = .ok (.newarray .int, 2) := by decide +kernel
theorem dX9_init_17 : decode cX9_init 17 = .ok (.putfield 13, 3) := by decide +kernel
theorem dX9_init_20 : decode cX9_init 20 = .ok (.aload_n 0, 1) := by decide +kernel
theorem dX9_init_21 : decode cX9_init 21 = .ok (.sipush 320, 3) := by decide +kernel
theorem dX9_init_24 : decode cX9_init 24 = .ok (.newarray .int, 2) := by decide +kernel
theorem dX9_init_26 : decode cX9_init 26 = .ok (.putfield 16, 3) := by decide +kernel
theorem dX9_init_29 : decode cX9_init 29 = .ok (.aload_n 0, 1) := by decide +kernel
theorem dX9_init_30 : decode cX9_init 30 = .ok (.bipush 56, 2) := by decide +kernel
theorem dX9_init_32 : decode cX9_init 32 = .ok (.newarray .int, 2) := by decide +kernel
theorem dX9_init_34 : decode cX9_init 34 = .ok (.putfield 19, 3) := by decide +kernel
theorem dX9_init_37 : decode cX9_init 37 = .ok (.aload_n 0, 1) := by decide +kernel
theorem dX9_init_38 : decode cX9_init 38 = .ok (.bipush 40, 2) := by decide +kernel
theorem dX9_init_40 : decode cX9_init 40 = .ok (.newarray .int, 2) := by decide +kernel
theorem dX9_init_42 : decode cX9_init 42 = .ok (.putfield 22, 3) := by decide +kernel
theorem dX9_init_45 : decode cX9_init 45 = .ok (.aload_n 0, 1) := by decide +kernel
theorem dX9_init_46 : decode cX9_init 46 = .ok (.bipush 120, 2) := by decide +kernel
theorem dX9_init_48 : decode cX9_init 48 = .ok (.newarray .int, 2) := by decide +kernel
theorem dX9_init_50 : decode cX9_init 50 = .ok (.putfield 25, 3) := by decide +kernel
theorem dX9_init_53 : decode cX9_init 53 = .ok (.aload_n 0, 1) := by decide +kernel
theorem dX9_init_54 : decode cX9_init 54 = .ok (.bipush 56, 2) := by decide +kernel
theorem dX9_init_56 : decode cX9_init 56 = .ok (.newarray .int, 2) := by decide +kernel
theorem dX9_init_58 : decode cX9_init 58 = .ok (.putfield 28, 3) := by decide +kernel
theorem dX9_init_61 : decode cX9_init 61 = .ok (.aload_n 0, 1) := by decide +kernel
theorem dX9_init_62 : decode cX9_init 62 = .ok (.sipush 1344, 3) := by decide +kernel
theorem dX9_init_65 : decode cX9_init 65 = .ok (.newarray .int, 2) := by decide +kernel
theorem dX9_init_67 : decode cX9_init 67 = .ok (.putfield 31, 3) := by decide +kernel
theorem dX9_init_70 : decode cX9_init 70 = .ok (.aload_n 0, 1) := by decide +kernel
theorem dX9_init_71 : decode cX9_init 71 = .ok (.bipush 56, 2) := by decide +kernel
theorem dX9_init_73 : decode cX9_init 73 = .ok (.newarray .int, 2) := by decide +kernel
theorem dX9_init_75 : decode cX9_init 75 = .ok (.putfield 34, 3) := by decide +kernel
theorem dX9_init_78 : decode cX9_init 78 = .ok (.aload_n 0, 1) := by decide +kernel
theorem dX9_init_79 : decode cX9_init 79 = .ok (.bipush 6, 2) := by decide +kernel
theorem dX9_init_81 : decode cX9_init 81 = .ok (.newarray .int, 2) := by decide +kernel
theorem dX9_init_83 : decode cX9_init 83 = .ok (.putfield 37, 3) := by decide +kernel
theorem dX9_init_86 : decode cX9_init 86 = .ok (.aload_n 0, 1) := by decide +kernel
theorem dX9_init_87 : decode cX9_init 87 = .ok (.bipush 6, 2) := by decide +kernel
theorem dX9_init_89 : decode cX9_init 89 = .ok (.newarray .int, 2) := by decide +kernel
theorem dX9_init_91 : decode cX9_init 91 = .ok (.putfield 40, 3) := by decide +kernel
theorem dX9_init_94 : decode cX9_init 94 = .ok (.aload_n 0, 1) := by decide +kernel
theorem dX9_init_95 : decode cX9_init 95 = .ok (.bipush 6, 2) := by decide +kernel
theorem dX9_init_97 : decode cX9_init 97 = .ok (.newarray .int, 2) := by decide +kernel
theorem dX9_init_99 : decode cX9_init 99 = .ok (.putfield 43, 3) := by decide +kernel
theorem dX9_init_102 : decode cX9_init 102 = .ok (.aload_n 0, 1) := by decide +kernel
theorem dX9_init_103 : decode cX9_init 103 = .ok (.bipush 6, 2) := by decide +kernel
theorem dX9_init_105 : decode cX9_init 105 = .ok (.newarray .int, 2) := by decide +kernel
theorem dX9_init_107 : decode cX9_init 107 = .ok (.putfield 46, 3) := by decide +kernel
theorem dX9_init_110 : decode cX9_init 110 = .ok (.aload_n 0, 1) := by decide +kernel
theorem dX9_init_111 : decode cX9_init 111 = .ok (.iconst 2, 1) := by decide +kernel
theorem dX9_init_112 : decode cX9_init 112 = .ok (.newarray .boolean, 2) := by decide +kernel
theorem dX9_init_114 : decode cX9_init 114 = .ok (.putfield 49, 3) := by decide +kernel
theorem dX9_init_117 : decode cX9_init 117 = .ok (.aload_n 0, 1) := by decide +kernel
theorem dX9_init_118 : decode cX9_init 118 = .ok (.bipush 112, 2) := by decide +kernel
theorem dX9_init_120 : decode cX9_init 120 = .ok (.newarray .int, 2) := by decide +kernel
theorem dX9_init_122 : decode cX9_init 122 = .ok (.putfield 53, 3) := by decide +kernel
theorem dX9_init_125 : decode cX9_init 125 = .ok (.aload_n 0, 1) := by decide +kernel
theorem dX9_init_126 : decode cX9_init 126 = .ok (.bipush 16, 2) := by decide +kernel
theorem dX9_init_128 : decode cX9_init 128 = .ok (.newarray .int, 2) := by decide +kernel
theorem dX9_init_130 : decode cX9_init 130 = .ok (.putfield 56, 3) := by decide +kernel
theorem dX9_init_133 : decode cX9_init 133 = .ok (.iconst 0, 1) := by decide +kernel
theorem dX9_init_134 : decode cX9_init 134 = .ok (.istore_n 1, 1) := by decide +kernel
theorem dX9_init_135 : decode cX9_init 135 = .ok (.iload_n 1, 1) := by decide +kernel
theorem dX9_init_136 : decode cX9_init 136 = .ok (.bipush 8, 2) := by decide +kernel
theorem dX9_init_138 : decode cX9_init 138 = .ok (.if_icmp .ge 16, 3) := by decide +kernel
theorem dX9_init_141 : decode cX9_init 141 = .ok (.aload_n 0, 1) := by decide +kernel
theorem dX9_init_142 : decode cX9_init 142 = .ok (.getfield 13, 3) := by decide +kernel
theorem dX9_init_145 : decode cX9_init 145 = .ok (.iload_n 1, 1) := by decide +kernel
theorem dX9_init_146 : decode cX9_init 146 = .ok (.iconst (-1), 1) := by decide +kernel
theorem dX9_init_147 : decode cX9_init 147 = .ok (.iastore, 1) := by decide +kernel
theorem dX9_init_148 : decode cX9_init 148 = .ok (.iinc 1 1, 3) := by decide +kernel
theorem dX9_init_151 : decode cX9_init 151 = .ok (.goto (-16), 3) := by decide +kernel
theorem dX9_init_154 : decode cX9_init 154 = .ok (.return_, 1) := by decide +kernel
theorem dX9_in_0 : decode cX9_in 0 = .ok (.lload_n 0, 1) := by decide +kernel
theorem dX9_in_1 : decode cX9_in 1 = .ok (.lload_n 2, 1) := by decide +kernel
theorem dX9_in_2 : decode cX9_in 2 = .ok (.lcmp, 1) := by decide +kernel
theorem dX9_in_3 : decode cX9_in 3 = .ok (.ifCond .lt 14, 3) := by decide +kernel
theorem dX9_in_6 : decode cX9_in 6 = .ok (.lload_n 0, 1) := by decide +kernel
theorem dX9_in_7 : decode cX9_in 7 = .ok (.lload 4, 2) := by decide +kernel
theorem dX9_in_9 : decode cX9_in 9 = .ok (.lcmp, 1) := by decide +kernel
theorem dX9_in_10 : decode cX9_in 10 = .ok (.ifCond .gt 7, 3) := by decide +kernel
theorem dX9_in_13 : decode cX9_in 13 = .ok (.iconst 1, 1) := by decide +kernel
theorem dX9_in_14 : decode cX9_in 14 = .ok (.goto 4, 3) := by decide +kernel
theorem dX9_in_17 : decode cX9_in 17 = .ok (.iconst 0, 1) := by decide +kernel
theorem dX9_in_18 : decode cX9_in 18 = .ok (.ireturn, 1) := by decide +kernel
theorem dX9_has_0 : decode cX9_has 0 = .ok (.iload_n 0, 1) := by decide +kernel
theorem dX9_has_1 : decode cX9_has 1 = .ok (.iload_n 1, 1) := by decide +kernel
theorem dX9_has_2 : decode cX9_has 2 = .ok (.ishr, 1) := by decide +kernel
theorem dX9_has_3 : decode cX9_has 3 = .ok (.iconst 1, 1) := by decide +kernel
theorem dX9_has_4 : decode cX9_has 4 = .ok (.iand, 1) := by decide +kernel
theorem dX9_has_5 : decode cX9_has 5 = .ok (.iconst 1, 1) := by decide +kernel
theorem dX9_has_6 : decode cX9_has 6 = .ok (.if_icmp .ne 7, 3) := by decide +kernel
theorem dX9_has_9 : decode cX9_has 9 = .ok (.iconst 1, 1) := by decide +kernel
theorem dX9_has_10 : decode cX9_has 10 = .ok (.goto 4, 3) := by decide +kernel
theorem dX9_has_13 : decode cX9_has 13 = .ok (.iconst 0, 1) := by decide +kernel
theorem dX9_has_14 : decode cX9_has 14 = .ok (.ireturn, 1) := by decide +kernel
theorem dX9_find_0 : decode cX9_find 0 = .ok (.aload_n 0, 1) := by decide +kernel
theorem dX9_find_1 : decode cX9_find 1 = .ok (.iload_n 1, 1) := by decide +kernel
theorem dX9_find_2 : decode cX9_find 2 = .ok (.putfield 59, 3) := by decide +kernel
theorem dX9_find_5 : decode cX9_find 5 = .ok (.ldc 63, 2) := by decide +kernel
theorem dX9_find_7 : decode cX9_find 7 = .ok (.iload_n 1, 1) := by decide +kernel
theorem dX9_find_8 : decode cX9_find 8 = .ok (.isub, 1) := by decide +kernel
theorem dX9_find_9 : decode cX9_find 9 = .ok (.ireturn, 1) := by decide +kernel
theorem dX9_well_0 : decode cX9_well 0 = .ok (.aload_n 0, 1) := by decide +kernel
theorem dX9_well_1 : decode cX9_well 1 = .ok (.iconst 0, 1) := by decide +kernel
theorem dX9_well_2 : decode cX9_well 2 = .ok (.putfield 59, 3) := by decide +kernel
theorem dX9_well_5 : decode cX9_well 5 = .ok (.iload_n 1, 1) := by decide +kernel
theorem dX9_well_6 : decode cX9_well 6 = .ok (.ireturn, 1) := by decide +kernel
theorem dX9_isRow_0 : decode cX9_isRow 0 = .ok (.iload_n 0, 1) := by decide +kernel
theorem dX9_isRow_1 : decode cX9_isRow 1 = .ok (.i2l, 1) := by decide +kernel
theorem dX9_isRow_2 : decode cX9_isRow 2 = .ok (.lconst 0, 1) := by decide +kernel
theorem dX9_isRow_3 : decode cX9_isRow 3 = .ok (.ldc2_w 64, 3) := by decide +kernel
theorem dX9_isRow_6 : decode cX9_isRow 6 = .ok (.invokestatic 66, 3) := by decide +kernel
theorem dX9_isRow_9 : decode cX9_isRow 9 = .ok (.ireturn, 1) := by decide +kernel
theorem dX9_row_0 : decode cX9_row 0 = .ok (.iload_n 1, 1) := by decide +kernel
theorem dX9_row_1 : decode cX9_row 1 = .ok (.invokestatic 70, 3) := by decide +kernel
theorem dX9_row_4 : decode cX9_row 4 = .ok (.ifCond .eq 21, 3) := by decide +kernel
theorem dX9_row_7 : decode cX9_row 7 = .ok (.iload_n 2, 1) := by decide +kernel
theorem dX9_row_8 : decode cX9_row 8 = .ok (.i2l, 1) := by decide +kernel
theorem dX9_row_9 : decode cX9_row 9 = .ok (.lconst 0, 1) := by decide +kernel
theorem dX9_row_10 : decode cX9_row 10 = .ok (.ldc2_w 74, 3) := by decide +kernel
theorem dX9_row_13 : decode cX9_row 13 = .ok (.invokestatic 66, 3) := by decide +kernel
theorem dX9_row_16 : decode cX9_row 16 = .ok (.ifCond .eq 9, 3) := by decide +kernel
theorem dX9_row_19 : decode cX9_row 19 = .ok (.iload_n 3, 1) := by decide +kernel
theorem dX9_row_20 : decode cX9_row 20 = .ok (.bipush 40, 2) := by decide +kernel
theorem dX9_row_22 : decode cX9_row 22 = .ok (.if_icmp .le 6, 3) := by decide +kernel
theorem dX9_row_25 : decode cX9_row 25 = .ok (.ldc 76, 2) := by decide +kernel
theorem dX9_row_27 : decode cX9_row 27 = .ok (.ireturn, 1) := by decide +kernel
theorem dX9_row_28 : decode cX9_row 28 = .ok (.iload_n 3, 1) := by decide +kernel
theorem dX9_row_29 : decode cX9_row 29 = .ok (.ifCond .ge 9, 3) := by decide +kernel
theorem dX9_row_32 : decode cX9_row 32 = .ok (.aload_n 0, 1) := by decide +kernel
theorem dX9_row_33 : decode cX9_row 33 = .ok (.iconst 4, 1) := by decide +kernel
theorem dX9_row_34 : decode cX9_row 34 = .ok (.invokevirtual 77, 3) := by decide +kernel
theorem dX9_row_37 : decode cX9_row 37 = .ok (.ireturn, 1) := by decide +kernel
theorem dX9_row_38 : decode cX9_row 38 = .ok (.aload_n 0, 1) := by decide +kernel
theorem dX9_row_39 : decode cX9_row 39 = .ok (.getfield 7, 3) := by decide +kernel
theorem dX9_row_42 : decode cX9_row 42 = .ok (.iload_n 1, 1) := by decide +kernel
theorem dX9_row_43 : decode cX9_row 43 = .ok (.iload_n 2, 1) := by decide +kernel
theorem dX9_row_44 : decode cX9_row 44 = .ok (.iastore, 1) := by decide +kernel
theorem dX9_row_45 : decode cX9_row 45 = .ok (.aload_n 0, 1) := by decide +kernel
theorem dX9_row_46 : decode cX9_row 46 = .ok (.getfield 13, 3) := by decide +kernel
theorem dX9_row_49 : decode cX9_row 49 = .ok (.iload_n 1, 1) := by decide +kernel
theorem dX9_row_50 : decode cX9_row 50 = .ok (.iload_n 3, 1) := by decide +kernel
theorem dX9_row_51 : decode cX9_row 51 = .ok (.iastore, 1) := by decide +kernel
theorem dX9_row_52 : decode cX9_row 52 = .ok (.iconst 0, 1) := by decide +kernel
theorem dX9_row_53 : decode cX9_row 53 = .ok (.istore 4, 2) := by decide +kernel
theorem dX9_row_55 : decode cX9_row 55 = .ok (.iload 4, 2) := by decide +kernel
theorem dX9_row_57 : decode cX9_row 57 = .ok (.bipush 40, 2) := by decide +kernel
theorem dX9_row_59 : decode cX9_row 59 = .ok (.if_icmp .ge 22, 3) := by decide +kernel
theorem dX9_row_62 : decode cX9_row 62 = .ok (.aload_n 0, 1) := by decide +kernel
theorem dX9_row_63 : decode cX9_row 63 = .ok (.getfield 16, 3) := by decide +kernel
theorem dX9_row_66 : decode cX9_row 66 = .ok (.bipush 40, 2) := by decide +kernel
theorem dX9_row_68 : decode cX9_row 68 = .ok (.iload_n 1, 1) := by decide +kernel
theorem dX9_row_69 : decode cX9_row 69 = .ok (.imul, 1) := by decide +kernel
theorem dX9_row_70 : decode cX9_row 70 = .ok (.iload 4, 2) := by decide +kernel
theorem dX9_row_72 : decode cX9_row 72 = .ok (.iadd, 1) := by decide +kernel
theorem dX9_row_73 : decode cX9_row 73 = .ok (.iconst 0, 1) := by decide +kernel
theorem dX9_row_74 : decode cX9_row 74 = .ok (.iastore, 1) := by decide +kernel
theorem dX9_row_75 : decode cX9_row 75 = .ok (.iinc 4 1, 3) := by decide +kernel
theorem dX9_row_78 : decode cX9_row 78 = .ok (.goto (-23), 3) := by decide +kernel
theorem dX9_row_81 : decode cX9_row 81 = .ok (.aload_n 0, 1) := by decide +kernel
theorem dX9_row_82 : decode cX9_row 82 = .ok (.iload_n 3, 1) := by decide +kernel
theorem dX9_row_83 : decode cX9_row 83 = .ok (.invokevirtual 81, 3) := by decide +kernel
theorem dX9_row_86 : decode cX9_row 86 = .ok (.ireturn, 1) := by decide +kernel
theorem dX9_asLane_0 : decode cX9_asLane 0 = .ok (.iload_n 0, 1) := by decide +kernel
theorem dX9_asLane_1 : decode cX9_asLane 1 = .ok (.ifCond .ne 13, 3) := by decide +kernel
theorem dX9_asLane_4 : decode cX9_asLane 4 = .ok (.iload_n 1, 1) := by decide +kernel
theorem dX9_asLane_5 : decode cX9_asLane 5 = .ok (.bipush 24, 2) := by decide +kernel
theorem dX9_asLane_7 : decode cX9_asLane 7 = .ok (.ishl, 1) := by decide +kernel
theorem dX9_asLane_8 : decode cX9_asLane 8 = .ok (.bipush 24, 2) := by decide +kernel
theorem dX9_asLane_10 : decode cX9_asLane 10 = .ok (.ishr, 1) := by decide +kernel
theorem dX9_asLane_11 : decode cX9_asLane 11 = .ok (.goto 19, 3) := by decide +kernel
theorem dX9_asLane_14 : decode cX9_asLane 14 = .ok (.iload_n 0, 1) := by decide +kernel
theorem dX9_asLane_15 : decode cX9_asLane 15 = .ok (.iconst 1, 1) := by decide +kernel
theorem dX9_asLane_16 : decode cX9_asLane 16 = .ok (.if_icmp .ne 13, 3) := by decide +kernel
theorem dX9_asLane_19 : decode cX9_asLane 19 = .ok (.iload_n 1, 1) := by decide +kernel
theorem dX9_asLane_20 : decode cX9_asLane 20 = .ok (.bipush 16, 2) := by decide +kernel
theorem dX9_asLane_22 : decode cX9_asLane 22 = .ok (.ishl, 1) := by decide +kernel
theorem dX9_asLane_23 : decode cX9_asLane 23 = .ok (.bipush 16, 2) := by decide +kernel
theorem dX9_asLane_25 : decode cX9_asLane 25 = .ok (.ishr, 1) := by decide +kernel
theorem dX9_asLane_26 : decode cX9_asLane 26 = .ok (.goto 4, 3) := by decide +kernel
theorem dX9_asLane_29 : decode cX9_asLane 29 = .ok (.iload_n 1, 1) := by decide +kernel
theorem dX9_asLane_30 : decode cX9_asLane 30 = .ok (.ireturn, 1) := by decide +kernel
theorem dX9_set_0 : decode cX9_set 0 = .ok (.iload_n 1, 1) := by decide +kernel
theorem dX9_set_1 : decode cX9_set 1 = .ok (.invokestatic 70, 3) := by decide +kernel
theorem dX9_set_4 : decode cX9_set 4 = .ok (.ifCond .ne 6, 3) := by decide +kernel
theorem dX9_set_7 : decode cX9_set 7 = .ok (.ldc 76, 2) := by decide +kernel
theorem dX9_set_9 : decode cX9_set 9 = .ok (.ireturn, 1) := by decide +kernel
theorem dX9_set_10 : decode cX9_set 10 = .ok (.aload_n 0, 1) := by decide +kernel
theorem dX9_set_11 : decode cX9_set 11 = .ok (.getfield 13, 3) := by decide +kernel
theorem dX9_set_14 : decode cX9_set 14 = .ok (.iload_n 1, 1) := by decide +kernel
theorem dX9_set_15 : decode cX9_set 15 = .ok (.iaload, 1) := by decide +kernel
theorem dX9_set_16 : decode cX9_set 16 = .ok (.ifCond .ge 9, 3) := by decide +kernel
theorem dX9_set_19 : decode cX9_set 19 = .ok (.aload_n 0, 1) := by decide +kernel
theorem dX9_set_20 : decode cX9_set 20 = .ok (.iconst 1, 1) := by decide +kernel
theorem dX9_set_21 : decode cX9_set 21 = .ok (.invokevirtual 77, 3) := by decide +kernel
theorem dX9_set_24 : decode cX9_set 24 = .ok (.ireturn, 1) := by decide +kernel
theorem dX9_set_25 : decode cX9_set 25 = .ok (.iload_n 2, 1) := by decide +kernel
theorem dX9_set_26 : decode cX9_set 26 = .ok (.i2l, 1) := by decide +kernel
theorem dX9_set_27 : decode cX9_set 27 = .ok (.lconst 0, 1) := by decide +kernel
theorem dX9_set_28 : decode cX9_set 28 = .ok (.aload_n 0, 1) := by decide +kernel
theorem dX9_set_29 : decode cX9_set 29 = .ok (.getfield 13, 3) := by decide +kernel
theorem dX9_set_32 : decode cX9_set 32 = .ok (.iload_n 1, 1) := by decide +kernel
theorem dX9_set_33 : decode cX9_set 33 = .ok (.iaload, 1) := by decide +kernel
theorem dX9_set_34 : decode cX9_set 34 = .ok (.iconst 1, 1) := by decide +kernel
theorem dX9_set_35 : decode cX9_set 35 = .ok (.isub, 1) := by decide +kernel
theorem dX9_set_36 : decode cX9_set 36 = .ok (.i2l, 1) := by decide +kernel
theorem dX9_set_37 : decode cX9_set 37 = .ok (.invokestatic 66, 3) := by decide +kernel
theorem dX9_set_40 : decode cX9_set 40 = .ok (.ifCond .ne 9, 3) := by decide +kernel
theorem dX9_set_43 : decode cX9_set 43 = .ok (.aload_n 0, 1) := by decide +kernel
theorem dX9_set_44 : decode cX9_set 44 = .ok (.iconst 2, 1) := by decide +kernel
theorem dX9_set_45 : decode cX9_set 45 = .ok (.invokevirtual 77, 3) := by decide +kernel
theorem dX9_set_48 : decode cX9_set 48 = .ok (.ireturn, 1) := by decide +kernel
theorem dX9_set_49 : decode cX9_set 49 = .ok (.aload_n 0, 1) := by decide +kernel
theorem dX9_set_50 : decode cX9_set 50 = .ok (.getfield 16, 3) := by decide +kernel
theorem dX9_set_53 : decode cX9_set 53 = .ok (.bipush 40, 2) := by decide +kernel
theorem dX9_set_55 : decode cX9_set 55 = .ok (.iload_n 1, 1) := by decide +kernel
theorem dX9_set_56 : decode cX9_set 56 = .ok (.imul, 1) := by decide +kernel
theorem dX9_set_57 : decode cX9_set 57 = .ok (.iload_n 2, 1) := by decide +kernel
theorem dX9_set_58 : decode cX9_set 58 = .ok (.iadd, 1) := by decide +kernel
theorem dX9_set_59 : decode cX9_set 59 = .ok (.aload_n 0, 1) := by decide +kernel
theorem dX9_set_60 : decode cX9_set 60 = .ok (.getfield 7, 3) := by decide +kernel
theorem dX9_set_63 : decode cX9_set 63 = .ok (.iload_n 1, 1) := by decide +kernel
theorem dX9_set_64 : decode cX9_set 64 = .ok (.iaload, 1) := by decide +kernel
theorem dX9_set_65 : decode cX9_set 65 = .ok (.iload_n 3, 1) := by decide +kernel
theorem dX9_set_66 : decode cX9_set 66 = .ok (.invokestatic 84, 3) := by decide +kernel
theorem dX9_set_69 : decode cX9_set 69 = .ok (.iastore, 1) := by decide +kernel
theorem dX9_set_70 : decode cX9_set 70 = .ok (.aload_n 0, 1) := by decide +kernel
theorem dX9_set_71 : decode cX9_set 71 = .ok (.aload_n 0, 1) := by decide +kernel
theorem dX9_set_72 : decode cX9_set 72 = .ok (.getfield 16, 3) := by decide +kernel
theorem dX9_set_75 : decode cX9_set 75 = .ok (.bipush 40, 2) := by decide +kernel
theorem dX9_set_77 : decode cX9_set 77 = .ok (.iload_n 1, 1) := by decide +kernel
theorem dX9_set_78 : decode cX9_set 78 = .ok (.imul, 1) := by decide +kernel
theorem dX9_set_79 : decode cX9_set 79 = .ok (.iload_n 2, 1) := by decide +kernel
theorem dX9_set_80 : decode cX9_set 80 = .ok (.iadd, 1) := by decide +kernel
theorem dX9_set_81 : decode cX9_set 81 = .ok (.iaload, 1) := by decide +kernel
theorem dX9_set_82 : decode cX9_set 82 = .ok (.invokevirtual 81, 3) := by decide +kernel
theorem dX9_set_85 : decode cX9_set 85 = .ok (.ireturn, 1) := by decide +kernel
theorem dX9_copy_0 : decode cX9_copy 0 = .ok (.iload_n 1, 1) := by decide +kernel
theorem dX9_copy_1 : decode cX9_copy 1 = .ok (.invokestatic 70, 3) := by decide +kernel
theorem dX9_copy_4 : decode cX9_copy 4 = .ok (.ifCond .eq 10, 3) := by decide +kernel
theorem dX9_copy_7 : decode cX9_copy 7 = .ok (.iload_n 3, 1) := by decide +kernel
theorem dX9_copy_8 : decode cX9_copy 8 = .ok (.invokestatic 70, 3) := by decide +kernel
theorem dX9_copy_11 : decode cX9_copy 11 = .ok (.ifCond .ne 6, 3) := by decide +kernel
theorem dX9_copy_14 : decode cX9_copy 14 = .ok (.ldc 76, 2) := by decide +kernel
theorem dX9_copy_16 : decode cX9_copy 16 = .ok (.ireturn, 1) := by decide +kernel
theorem dX9_copy_17 : decode cX9_copy 17 = .ok (.aload_n 0, 1) := by decide +kernel
theorem dX9_copy_18 : decode cX9_copy 18 = .ok (.getfield 13, 3) := by decide +kernel
theorem dX9_copy_21 : decode cX9_copy 21 = .ok (.iload_n 1, 1) := by decide +kernel
theorem dX9_copy_22 : decode cX9_copy 22 = .ok (.iaload, 1) := by decide +kernel
theorem dX9_copy_23 : decode cX9_copy 23 = .ok (.ifCond .lt 12, 3) := by decide +kernel
theorem dX9_copy_26 : decode cX9_copy 26 = .ok (.aload_n 0, 1) := by decide +kernel
theorem dX9_copy_27 : decode cX9_copy 27 = .ok (.getfield 13, 3) := by decide +kernel
theorem dX9_copy_30 : decode cX9_copy 30 = .ok (.iload_n 3, 1) := by decide +kernel
theorem dX9_copy_31 : decode cX9_copy 31 = .ok (.iaload, 1) := by decide +kernel
theorem dX9_copy_32 : decode cX9_copy 32 = .ok (.ifCond .ge 9, 3) := by decide +kernel
theorem dX9_copy_35 : decode cX9_copy 35 = .ok (.aload_n 0, 1) := by decide +kernel
theorem dX9_copy_36 : decode cX9_copy 36 = .ok (.iconst 1, 1) := by decide +kernel
theorem dX9_copy_37 : decode cX9_copy 37 = .ok (.invokevirtual 77, 3) := by decide +kernel
theorem dX9_copy_40 : decode cX9_copy 40 = .ok (.ireturn, 1) := by decide +kernel
theorem dX9_copy_41 : decode cX9_copy 41 = .ok (.aload_n 0, 1) := by decide +kernel
theorem dX9_copy_42 : decode cX9_copy 42 = .ok (.getfield 7, 3) := by decide +kernel
theorem dX9_copy_45 : decode cX9_copy 45 = .ok (.iload_n 1, 1) := by decide +kernel
theorem dX9_copy_46 : decode cX9_copy 46 = .ok (.iaload, 1) := by decide +kernel
theorem dX9_copy_47 : decode cX9_copy 47 = .ok (.aload_n 0, 1) := by decide +kernel
theorem dX9_copy_48 : decode cX9_copy 48 = .ok (.getfield 7, 3) := by decide +kernel
theorem dX9_copy_51 : decode cX9_copy 51 = .ok (.iload_n 3, 1) := by decide +kernel
theorem dX9_copy_52 : decode cX9_copy 52 = .ok (.iaload, 1) := by decide +kernel
theorem dX9_copy_53 : decode cX9_copy 53 = .ok (.if_icmp .eq 9, 3) := by decide +kernel
theorem dX9_copy_56 : decode cX9_copy 56 = .ok (.aload_n 0, 1) := by decide +kernel
theorem dX9_copy_57 : decode cX9_copy 57 = .ok (.iconst 5, 1) := by decide +kernel
theorem dX9_copy_58 : decode cX9_copy 58 = .ok (.invokevirtual 77, 3) := by decide +kernel
theorem dX9_copy_61 : decode cX9_copy 61 = .ok (.ireturn, 1) := by decide +kernel
theorem dX9_copy_62 : decode cX9_copy 62 = .ok (.iload 5, 2) := by decide +kernel
theorem dX9_copy_64 : decode cX9_copy 64 = .ok (.ifCond .lt 44, 3) := by decide +kernel
theorem dX9_copy_67 : decode cX9_copy 67 = .ok (.iload_n 2, 1) := by decide +kernel
theorem dX9_copy_68 : decode cX9_copy 68 = .ok (.i2l, 1) := by decide +kernel
theorem dX9_copy_69 : decode cX9_copy 69 = .ok (.lconst 0, 1) := by decide +kernel
theorem dX9_copy_70 : decode cX9_copy 70 = .ok (.aload_n 0, 1) := by decide +kernel
theorem dX9_copy_71 : decode cX9_copy 71 = .ok (.getfield 13, 3) := by decide +kernel
theorem dX9_copy_74 : decode cX9_copy 74 = .ok (.iload_n 1, 1) := by decide +kernel
theorem dX9_copy_75 : decode cX9_copy 75 = .ok (.iaload, 1) := by decide +kernel
theorem dX9_copy_76 : decode cX9_copy 76 = .ok (.i2l, 1) := by decide +kernel
theorem dX9_copy_77 : decode cX9_copy 77 = .ok (.iload 5, 2) := by decide +kernel
theorem dX9_copy_79 : decode cX9_copy 79 = .ok (.i2l, 1) := by decide +kernel
theorem dX9_copy_80 : decode cX9_copy 80 = .ok (.lsub, 1) := by decide +kernel
theorem dX9_copy_81 : decode cX9_copy 81 = .ok (.invokestatic 66, 3) := by decide +kernel
theorem dX9_copy_84 : decode cX9_copy 84 = .ok (.ifCond .eq 24, 3) := by decide +kernel
theorem dX9_copy_87 : decode cX9_copy 87 = .ok (.iload 4, 2) := by decide +kernel
theorem dX9_copy_89 : decode cX9_copy 89 = .ok (.i2l, 1) := by decide +kernel
theorem dX9_copy_90 : decode cX9_copy 90 = .ok (.lconst 0, 1) := by decide +kernel
theorem dX9_copy_91 : decode cX9_copy 91 = .ok (.aload_n 0, 1) := by decide +kernel
theorem dX9_copy_92 : decode cX9_copy 92 = .ok (.getfield 13, 3) := by decide +kernel
theorem dX9_copy_95 : decode cX9_copy 95 = .ok (.iload_n 3, 1) := by decide +kernel
theorem dX9_copy_96 : decode cX9_copy 96 = .ok (.iaload, 1) := by decide +kernel
theorem dX9_copy_97 : decode cX9_copy 97 = .ok (.i2l, 1) := by decide +kernel
theorem dX9_copy_98 : decode cX9_copy 98 = .ok (.iload 5, 2) := by decide +kernel
theorem dX9_copy_100 : decode cX9_copy 100 = .ok (.i2l, 1) := by decide +kernel
theorem dX9_copy_101 : decode cX9_copy 101 = .ok (.lsub, 1) := by decide +kernel
theorem dX9_copy_102 : decode cX9_copy 102 = .ok (.invokestatic 66, 3) := by decide +kernel
theorem dX9_copy_105 : decode cX9_copy 105 = .ok (.ifCond .ne 9, 3) := by decide +kernel
theorem dX9_copy_108 : decode cX9_copy 108 = .ok (.aload_n 0, 1) := by decide +kernel
theorem dX9_copy_109 : decode cX9_copy 109 = .ok (.iconst 2, 1) := by decide +kernel
theorem dX9_copy_110 : decode cX9_copy 110 = .ok (.invokevirtual 77, 3) := by decide +kernel
theorem dX9_copy_113 : decode cX9_copy 113 = .ok (.ireturn, 1) := by decide +kernel
theorem dX9_copy_114 : decode cX9_copy 114 = .ok (.iconst 0, 1) := by decide +kernel
theorem dX9_copy_115 : decode cX9_copy 115 = .ok (.istore 6, 2) := by decide +kernel
theorem dX9_copy_117 : decode cX9_copy 117 = .ok (.iload 6, 2) := by decide +kernel
theorem dX9_copy_119 : decode cX9_copy 119 = .ok (.iload 5, 2) := by decide +kernel
theorem dX9_copy_121 : decode cX9_copy 121 = .ok (.if_icmp .ge 30, 3) := by decide +kernel
theorem dX9_copy_124 : decode cX9_copy 124 = .ok (.aload_n 0, 1) := by decide +kernel
theorem dX9_copy_125 : decode cX9_copy 125 = .ok (.getfield 22, 3) := by decide +kernel
theorem dX9_copy_128 : decode cX9_copy 128 = .ok (.iload 6, 2) := by decide +kernel
theorem dX9_copy_130 : decode cX9_copy 130 = .ok (.aload_n 0, 1) := by decide +kernel
theorem dX9_copy_131 : decode cX9_copy 131 = .ok (.getfield 16, 3) := by decide +kernel
theorem dX9_copy_134 : decode cX9_copy 134 = .ok (.bipush 40, 2) := by decide +kernel
theorem dX9_copy_136 : decode cX9_copy 136 = .ok (.iload_n 1, 1) := by decide +kernel
theorem dX9_copy_137 : decode cX9_copy 137 = .ok (.imul, 1) := by decide +kernel
theorem dX9_copy_138 : decode cX9_copy 138 = .ok (.iload_n 2, 1) := by decide +kernel
theorem dX9_copy_139 : decode cX9_copy 139 = .ok (.iadd, 1) := by decide +kernel
theorem dX9_copy_140 : decode cX9_copy 140 = .ok (.iload 6, 2) := by decide +kernel
theorem dX9_copy_142 : decode cX9_copy 142 = .ok (.iadd, 1) := by decide +kernel
theorem dX9_copy_143 : decode cX9_copy 143 = .ok (.iaload, 1) := by decide +kernel
theorem dX9_copy_144 : decode cX9_copy 144 = .ok (.iastore, 1) := by decide +kernel
theorem dX9_copy_145 : decode cX9_copy 145 = .ok (.iinc 6 1, 3) := by decide +kernel
theorem dX9_copy_148 : decode cX9_copy 148 = .ok (.goto (-31), 3) := by decide +kernel
theorem dX9_copy_151 : decode cX9_copy 151 = .ok (.iconst 0, 1) := by decide +kernel
theorem dX9_copy_152 : decode cX9_copy 152 = .ok (.istore 6, 2) := by decide +kernel
theorem dX9_copy_154 : decode cX9_copy 154 = .ok (.iload 6, 2) := by decide +kernel
theorem dX9_copy_156 : decode cX9_copy 156 = .ok (.iload 5, 2) := by decide +kernel
theorem dX9_copy_158 : decode cX9_copy 158 = .ok (.if_icmp .ge 31, 3) := by decide +kernel
theorem dX9_copy_161 : decode cX9_copy 161 = .ok (.aload_n 0, 1) := by decide +kernel
theorem dX9_copy_162 : decode cX9_copy 162 = .ok (.getfield 16, 3) := by decide +kernel
theorem dX9_copy_165 : decode cX9_copy 165 = .ok (.bipush 40, 2) := by decide +kernel
theorem dX9_copy_167 : decode cX9_copy 167 = .ok (.iload_n 3, 1) := by decide +kernel
theorem dX9_copy_168 : decode cX9_copy 168 = .ok (.imul, 1) := by decide +kernel
theorem dX9_copy_169 : decode cX9_copy 169 = .ok (.iload 4, 2) := by decide +kernel
theorem dX9_copy_171 : decode cX9_copy 171 = .ok (.iadd, 1) := by decide +kernel
theorem dX9_copy_172 : decode cX9_copy 172 = .ok (.iload 6, 2) := by decide +kernel
theorem dX9_copy_174 : decode cX9_copy 174 = .ok (.iadd, 1) := by decide +kernel
theorem dX9_copy_175 : decode cX9_copy 175 = .ok (.aload_n 0, 1) := by decide +kernel
theorem dX9_copy_176 : decode cX9_copy 176 = .ok (.getfield 22, 3) := by decide +kernel
theorem dX9_copy_179 : decode cX9_copy 179 = .ok (.iload 6, 2) := by decide +kernel
theorem dX9_copy_181 : decode cX9_copy 181 = .ok (.iaload, 1) := by decide +kernel
theorem dX9_copy_182 : decode cX9_copy 182 = .ok (.iastore, 1) := by decide +kernel
theorem dX9_copy_183 : decode cX9_copy 183 = .ok (.iinc 6 1, 3) := by decide +kernel
theorem dX9_copy_186 : decode cX9_copy 186 = .ok (.goto (-32), 3) := by decide +kernel
theorem dX9_copy_189 : decode cX9_copy 189 = .ok (.aload_n 0, 1) := by decide +kernel
theorem dX9_copy_190 : decode cX9_copy 190 = .ok (.iload 5, 2) := by decide +kernel
theorem dX9_copy_192 : decode cX9_copy 192 = .ok (.invokevirtual 81, 3) := by decide +kernel
theorem dX9_copy_195 : decode cX9_copy 195 = .ok (.ireturn, 1) := by decide +kernel
theorem dX9_drop_0 : decode cX9_drop 0 = .ok (.iload_n 1, 1) := by decide +kernel
theorem dX9_drop_1 : decode cX9_drop 1 = .ok (.invokestatic 70, 3) := by decide +kernel
theorem dX9_drop_4 : decode cX9_drop 4 = .ok (.ifCond .ne 6, 3) := by decide +kernel
theorem dX9_drop_7 : decode cX9_drop 7 = .ok (.ldc 76, 2) := by decide +kernel
theorem dX9_drop_9 : decode cX9_drop 9 = .ok (.ireturn, 1) := by decide +kernel
theorem dX9_drop_10 : decode cX9_drop 10 = .ok (.aload_n 0, 1) := by decide +kernel
theorem dX9_drop_11 : decode cX9_drop 11 = .ok (.getfield 13, 3) := by decide +kernel
theorem dX9_drop_14 : decode cX9_drop 14 = .ok (.iload_n 1, 1) := by decide +kernel
theorem dX9_drop_15 : decode cX9_drop 15 = .ok (.iaload, 1) := by decide +kernel
theorem dX9_drop_16 : decode cX9_drop 16 = .ok (.ifCond .ge 9, 3) := by decide +kernel
theorem dX9_drop_19 : decode cX9_drop 19 = .ok (.aload_n 0, 1) := by decide +kernel
theorem dX9_drop_20 : decode cX9_drop 20 = .ok (.iconst 1, 1) := by decide +kernel
theorem dX9_drop_21 : decode cX9_drop 21 = .ok (.invokevirtual 77, 3) := by decide +kernel
theorem dX9_drop_24 : decode cX9_drop 24 = .ok (.ireturn, 1) := by decide +kernel
theorem dX9_drop_25 : decode cX9_drop 25 = .ok (.aload_n 0, 1) := by decide +kernel
theorem dX9_drop_26 : decode cX9_drop 26 = .ok (.getfield 13, 3) := by decide +kernel
theorem dX9_drop_29 : decode cX9_drop 29 = .ok (.iload_n 1, 1) := by decide +kernel
theorem dX9_drop_30 : decode cX9_drop 30 = .ok (.iaload, 1) := by decide +kernel
theorem dX9_drop_31 : decode cX9_drop 31 = .ok (.istore_n 2, 1) := by decide +kernel
theorem dX9_drop_32 : decode cX9_drop 32 = .ok (.aload_n 0, 1) := by decide +kernel
theorem dX9_drop_33 : decode cX9_drop 33 = .ok (.getfield 13, 3) := by decide +kernel
theorem dX9_drop_36 : decode cX9_drop 36 = .ok (.iload_n 1, 1) := by decide +kernel
theorem dX9_drop_37 : decode cX9_drop 37 = .ok (.iconst (-1), 1) := by decide +kernel
theorem dX9_drop_38 : decode cX9_drop 38 = .ok (.iastore, 1) := by decide +kernel
theorem dX9_drop_39 : decode cX9_drop 39 = .ok (.aload_n 0, 1) := by decide +kernel
theorem dX9_drop_40 : decode cX9_drop 40 = .ok (.iload_n 2, 1) := by decide +kernel
theorem dX9_drop_41 : decode cX9_drop 41 = .ok (.invokevirtual 81, 3) := by decide +kernel
theorem dX9_drop_44 : decode cX9_drop 44 = .ok (.ireturn, 1) := by decide +kernel
theorem dX9_feed_0 : decode cX9_feed 0 = .ok (.iload_n 1, 1) := by decide +kernel
theorem dX9_feed_1 : decode cX9_feed 1 = .ok (.i2l, 1) := by decide +kernel
theorem dX9_feed_2 : decode cX9_feed 2 = .ok (.lconst 0, 1) := by decide +kernel
theorem dX9_feed_3 : decode cX9_feed 3 = .ok (.ldc2_w 88, 3) := by decide +kernel
theorem dX9_feed_6 : decode cX9_feed 6 = .ok (.invokestatic 66, 3) := by decide +kernel
theorem dX9_feed_9 : decode cX9_feed 9 = .ok (.ifCond .ne 6, 3) := by decide +kernel
theorem dX9_feed_12 : decode cX9_feed 12 = .ok (.ldc 76, 2) := by decide +kernel
theorem dX9_feed_14 : decode cX9_feed 14 = .ok (.ireturn, 1) := by decide +kernel
theorem dX9_feed_15 : decode cX9_feed 15 = .ok (.aload_n 0, 1) := by decide +kernel
theorem dX9_feed_16 : decode cX9_feed 16 = .ok (.getfield 90, 3) := by decide +kernel
theorem dX9_feed_19 : decode cX9_feed 19 = .ok (.bipush 120, 2) := by decide +kernel
theorem dX9_feed_21 : decode cX9_feed 21 = .ok (.if_icmp .ne 6, 3) := by decide +kernel
theorem dX9_feed_24 : decode cX9_feed 24 = .ok (.ldc 93, 2) := by decide +kernel
theorem dX9_feed_26 : decode cX9_feed 26 = .ok (.ireturn, 1) := by decide +kernel
theorem dX9_feed_27 : decode cX9_feed 27 = .ok (.aload_n 0, 1) := by decide +kernel
theorem dX9_feed_28 : decode cX9_feed 28 = .ok (.getfield 25, 3) := by decide +kernel
theorem dX9_feed_31 : decode cX9_feed 31 = .ok (.aload_n 0, 1) := by decide +kernel
theorem dX9_feed_32 : decode cX9_feed 32 = .ok (.getfield 90, 3) := by decide +kernel
theorem dX9_feed_35 : decode cX9_feed 35 = .ok (.iload_n 1, 1) := by decide +kernel
theorem dX9_feed_36 : decode cX9_feed 36 = .ok (.iastore, 1) := by decide +kernel
theorem dX9_feed_37 : decode cX9_feed 37 = .ok (.aload_n 0, 1) := by decide +kernel
theorem dX9_feed_38 : decode cX9_feed 38 = .ok (.dup, 1) := by decide +kernel
theorem dX9_feed_39 : decode cX9_feed 39 = .ok (.getfield 90, 3) := by decide +kernel
theorem dX9_feed_42 : decode cX9_feed 42 = .ok (.iconst 1, 1) := by decide +kernel
theorem dX9_feed_43 : decode cX9_feed 43 = .ok (.iadd, 1) := by decide +kernel
theorem dX9_feed_44 : decode cX9_feed 44 = .ok (.putfield 90, 3) := by decide +kernel
theorem dX9_feed_47 : decode cX9_feed 47 = .ok (.aload_n 0, 1) := by decide +kernel
theorem dX9_feed_48 : decode cX9_feed 48 = .ok (.getfield 90, 3) := by decide +kernel
theorem dX9_feed_51 : decode cX9_feed 51 = .ok (.ireturn, 1) := by decide +kernel
theorem dX9_isSign_0 : decode cX9_isSign 0 = .ok (.iload_n 0, 1) := by decide +kernel
theorem dX9_isSign_1 : decode cX9_isSign 1 = .ok (.i2l, 1) := by decide +kernel
theorem dX9_isSign_2 : decode cX9_isSign 2 = .ok (.ldc2_w 94, 3) := by decide +kernel
theorem dX9_isSign_5 : decode cX9_isSign 5 = .ok (.ldc2_w 96, 3) := by decide +kernel
theorem dX9_isSign_8 : decode cX9_isSign 8 = .ok (.invokestatic 66, 3) := by decide +kernel
theorem dX9_isSign_11 : decode cX9_isSign 11 = .ok (.ifCond .ne 15, 3) := by decide +kernel
theorem dX9_isSign_14 : decode cX9_isSign 14 = .ok (.iload_n 0, 1) := by decide +kernel
theorem dX9_isSign_15 : decode cX9_isSign 15 = .ok (.bipush 44, 2) := by decide +kernel
theorem dX9_isSign_17 : decode cX9_isSign 17 = .ok (.if_icmp .eq 9, 3) := by decide +kernel
theorem dX9_isSign_20 : decode cX9_isSign 20 = .ok (.iload_n 0, 1) := by decide +kernel
theorem dX9_isSign_21 : decode cX9_isSign 21 = .ok (.bipush 59, 2) := by decide +kernel
theorem dX9_isSign_23 : decode cX9_isSign 23 = .ok (.if_icmp .ne 7, 3) := by decide +kernel
theorem dX9_isSign_26 : decode cX9_isSign 26 = .ok (.iconst 1, 1) := by decide +kernel
theorem dX9_isSign_27 : decode cX9_isSign 27 = .ok (.goto 4, 3) := by decide +kernel
theorem dX9_isSign_30 : decode cX9_isSign 30 = .ok (.iconst 0, 1) := by decide +kernel
theorem dX9_isSign_31 : decode cX9_isSign 31 = .ok (.ireturn, 1) := by decide +kernel
theorem dX9_nextToken_0 : decode cX9_nextToken 0 = .ok (.aload_n 0, 1) := by decide +kernel
theorem dX9_nextToken_1 : decode cX9_nextToken 1 = .ok (.aload_n 0, 1) := by decide +kernel
theorem dX9_nextToken_2 : decode cX9_nextToken 2 = .ok (.getfield 98, 3) := by decide +kernel
theorem dX9_nextToken_5 : decode cX9_nextToken 5 = .ok (.putfield 101, 3) := by decide +kernel
theorem dX9_nextToken_8 : decode cX9_nextToken 8 = .ok (.aload_n 0, 1) := by decide +kernel
theorem dX9_nextToken_9 : decode cX9_nextToken 9 = .ok (.aload_n 0, 1) := by decide +kernel
theorem dX9_nextToken_10 : decode cX9_nextToken 10 = .ok (.getfield 98, 3) := by decide +kernel
theorem dX9_nextToken_13 : decode cX9_nextToken 13 = .ok (.aload_n 0, 1) := by decide +kernel
theorem dX9_nextToken_14 : decode cX9_nextToken 14 = .ok (.getfield 90, 3) := by decide +kernel
theorem dX9_nextToken_17 : decode cX9_nextToken 17 = .ok (.if_icmp .ne 7, 3) := by decide +kernel
theorem dX9_nextToken_20 : decode cX9_nextToken 20 = .ok (.iconst 3, 1) := by decide +kernel
theorem dX9_nextToken_21 : decode cX9_nextToken 21 = .ok (.goto 4, 3) := by decide +kernel
theorem dX9_nextToken_24 : decode cX9_nextToken 24 = .ok (.iconst 0, 1) := by decide +kernel
theorem dX9_nextToken_25 : decode cX9_nextToken 25 = .ok (.putfield 104, 3) := by decide +kernel
theorem dX9_nextToken_28 : decode cX9_nextToken 28 = .ok (.aload_n 0, 1) := by decide +kernel
theorem dX9_nextToken_29 : decode cX9_nextToken 29 = .ok (.iconst 0, 1) := by decide +kernel
theorem dX9_nextToken_30 : decode cX9_nextToken 30 = .ok (.putfield 107, 3) := by decide +kernel
theorem dX9_nextToken_33 : decode cX9_nextToken 33 = .ok (.aload_n 0, 1) := by decide +kernel
theorem dX9_nextToken_34 : decode cX9_nextToken 34 = .ok (.getfield 98, 3) := by decide +kernel
theorem dX9_nextToken_37 : decode cX9_nextToken 37 = .ok (.aload_n 0, 1) := by decide +kernel
theorem dX9_nextToken_38 : decode cX9_nextToken 38 = .ok (.getfield 90, 3) := by decide +kernel
theorem dX9_nextToken_41 : decode cX9_nextToken 41 = .ok (.if_icmp .ge 79, 3) := by decide +kernel
theorem dX9_nextToken_44 : decode cX9_nextToken 44 = .ok (.aload_n 0, 1) := by decide +kernel
theorem dX9_nextToken_45 : decode cX9_nextToken 45 = .ok (.getfield 25, 3) := by decide +kernel
theorem dX9_nextToken_48 : decode cX9_nextToken 48 = .ok (.aload_n 0, 1) := by decide +kernel
theorem dX9_nextToken_49 : decode cX9_nextToken 49 = .ok (.getfield 98, 3) := by decide +kernel
theorem dX9_nextToken_52 : decode cX9_nextToken 52 = .ok (.iaload, 1) := by decide +kernel
theorem dX9_nextToken_53 : decode cX9_nextToken 53 = .ok (.i2l, 1) := by decide +kernel
theorem dX9_nextToken_54 : decode cX9_nextToken 54 = .ok (.ldc2_w 110, 3) := by decide +kernel
theorem dX9_nextToken_57 : decode cX9_nextToken 57 = .ok (.ldc2_w 112, 3) := by decide +kernel
theorem dX9_nextToken_60 : decode cX9_nextToken 60 = .ok (.invokestatic 66, 3) := by decide +kernel
theorem dX9_nextToken_63 : decode cX9_nextToken 63 = .ok (.ifCond .eq 57, 3) := by decide +kernel
theorem dX9_nextToken_66 : decode cX9_nextToken 66 = .ok (.aload_n 0, 1) := by decide +kernel
theorem dX9_nextToken_67 : decode cX9_nextToken 67 = .ok (.aload_n 0, 1) := by decide +kernel
theorem dX9_nextToken_68 : decode cX9_nextToken 68 = .ok (.getfield 107, 3) := by decide +kernel
theorem dX9_nextToken_71 : decode cX9_nextToken 71 = .ok (.sipush 999, 3) := by decide +kernel
theorem dX9_nextToken_74 : decode cX9_nextToken 74 = .ok (.if_icmp .le 10, 3) := by decide +kernel
theorem dX9_nextToken_77 : decode cX9_nextToken 77 = .ok (.aload_n 0, 1) := by decide +kernel
theorem dX9_nextToken_78 : decode cX9_nextToken 78 = .ok (.getfield 107, 3) := by decide +kernel
theorem dX9_nextToken_81 : decode cX9_nextToken 81 = .ok (.goto 23, 3) := by decide +kernel
theorem dX9_nextToken_84 : decode cX9_nextToken 84 = .ok (.bipush 10, 2) := by decide +kernel
theorem dX9_nextToken_86 : decode cX9_nextToken 86 = .ok (.aload_n 0, 1) := by decide +kernel
theorem dX9_nextToken_87 : decode cX9_nextToken 87 = .ok (.getfield 107, 3) := by decide +kernel
theorem dX9_nextToken_90 : decode cX9_nextToken 90 = .ok (.imul, 1) := by decide +kernel
theorem dX9_nextToken_91 : decode cX9_nextToken 91 = .ok (.aload_n 0, 1) := by decide +kernel
theorem dX9_nextToken_92 : decode cX9_nextToken 92 = .ok (.getfield 25, 3) := by decide +kernel
theorem dX9_nextToken_95 : decode cX9_nextToken 95 = .ok (.aload_n 0, 1) := by decide +kernel
theorem dX9_nextToken_96 : decode cX9_nextToken 96 = .ok (.getfield 98, 3) := by decide +kernel
theorem dX9_nextToken_99 : decode cX9_nextToken 99 = .ok (.iaload, 1) := by decide +kernel
theorem dX9_nextToken_100 : decode cX9_nextToken 100 = .ok (.iadd, 1) := by decide +kernel
theorem dX9_nextToken_101 : decode cX9_nextToken 101 = .ok (.bipush 48, 2) := by decide +kernel
theorem dX9_nextToken_103 : decode cX9_nextToken 103 = .ok (.isub, 1) := by decide +kernel
theorem dX9_nextToken_104 : decode cX9_nextToken 104 = .ok (.putfield 107, 3) := by decide +kernel
theorem dX9_nextToken_107 : decode cX9_nextToken 107 = .ok (.aload_n 0, 1) := by decide +kernel
theorem dX9_nextToken_108 : decode cX9_nextToken 108 = .ok (.dup, 1) := by decide +kernel
theorem dX9_nextToken_109 : decode cX9_nextToken 109 = .ok (.getfield 98, 3) := by decide +kernel
theorem dX9_nextToken_112 : decode cX9_nextToken 112 = .ok (.iconst 1, 1) := by decide +kernel
theorem dX9_nextToken_113 : decode cX9_nextToken 113 = .ok (.iadd, 1) := by decide +kernel
theorem dX9_nextToken_114 : decode cX9_nextToken 114 = .ok (.putfield 98, 3) := by decide +kernel
theorem dX9_nextToken_117 : decode cX9_nextToken 117 = .ok (.goto (-84), 3) := by decide +kernel
theorem dX9_nextToken_120 : decode cX9_nextToken 120 = .ok (.aload_n 0, 1) := by decide +kernel
theorem dX9_nextToken_121 : decode cX9_nextToken 121 = .ok (.getfield 98, 3) := by decide +kernel
theorem dX9_nextToken_124 : decode cX9_nextToken 124 = .ok (.aload_n 0, 1) := by decide +kernel
theorem dX9_nextToken_125 : decode cX9_nextToken 125 = .ok (.getfield 101, 3) := by decide +kernel
theorem dX9_nextToken_128 : decode cX9_nextToken 128 = .ok (.if_icmp .le 28, 3) := by decide +kernel
theorem dX9_nextToken_131 : decode cX9_nextToken 131 = .ok (.aload_n 0, 1) := by decide +kernel
theorem dX9_nextToken_132 : decode cX9_nextToken 132 = .ok (.aload_n 0, 1) := by decide +kernel
theorem dX9_nextToken_133 : decode cX9_nextToken 133 = .ok (.getfield 98, 3) := by decide +kernel
theorem dX9_nextToken_136 : decode cX9_nextToken 136 = .ok (.aload_n 0, 1) := by decide +kernel
theorem dX9_nextToken_137 : decode cX9_nextToken 137 = .ok (.getfield 101, 3) := by decide +kernel
theorem dX9_nextToken_140 : decode cX9_nextToken 140 = .ok (.isub, 1) := by decide +kernel
theorem dX9_nextToken_141 : decode cX9_nextToken 141 = .ok (.iconst 3, 1) := by decide +kernel
theorem dX9_nextToken_142 : decode cX9_nextToken 142 = .ok (.if_icmp .le 7, 3) := by decide +kernel
theorem dX9_nextToken_145 : decode cX9_nextToken 145 = .ok (.iconst 0, 1) := by decide +kernel
theorem dX9_nextToken_146 : decode cX9_nextToken 146 = .ok (.goto 4, 3) := by decide +kernel
theorem dX9_nextToken_149 : decode cX9_nextToken 149 = .ok (.iconst 2, 1) := by decide +kernel
theorem dX9_nextToken_150 : decode cX9_nextToken 150 = .ok (.putfield 104, 3) := by decide +kernel
theorem dX9_nextToken_153 : decode cX9_nextToken 153 = .ok (.goto 57, 3) := by decide +kernel
theorem dX9_nextToken_156 : decode cX9_nextToken 156 = .ok (.aload_n 0, 1) := by decide +kernel
theorem dX9_nextToken_157 : decode cX9_nextToken 157 = .ok (.getfield 104, 3) := by decide +kernel
theorem dX9_nextToken_160 : decode cX9_nextToken 160 = .ok (.ifCond .ne 50, 3) := by decide +kernel
theorem dX9_nextToken_163 : decode cX9_nextToken 163 = .ok (.aload_n 0, 1) := by decide +kernel
theorem dX9_nextToken_164 : decode cX9_nextToken 164 = .ok (.aload_n 0, 1) := by decide +kernel
theorem dX9_nextToken_165 : decode cX9_nextToken 165 = .ok (.getfield 25, 3) := by decide +kernel
theorem dX9_nextToken_168 : decode cX9_nextToken 168 = .ok (.aload_n 0, 1) := by decide +kernel
theorem dX9_nextToken_169 : decode cX9_nextToken 169 = .ok (.getfield 98, 3) := by decide +kernel
theorem dX9_nextToken_172 : decode cX9_nextToken 172 = .ok (.iaload, 1) := by decide +kernel
theorem dX9_nextToken_173 : decode cX9_nextToken 173 = .ok (.invokestatic 114, 3) := by decide +kernel
theorem dX9_nextToken_176 : decode cX9_nextToken 176 = .ok (.ifCond .eq 7, 3) := by decide +kernel
theorem dX9_nextToken_179 : decode cX9_nextToken 179 = .ok (.iconst 1, 1) := by decide +kernel
theorem dX9_nextToken_180 : decode cX9_nextToken 180 = .ok (.goto 4, 3) := by decide +kernel
theorem dX9_nextToken_183 : decode cX9_nextToken 183 = .ok (.iconst 0, 1) := by decide +kernel
theorem dX9_nextToken_184 : decode cX9_nextToken 184 = .ok (.putfield 104, 3) := by decide +kernel
theorem dX9_nextToken_187 : decode cX9_nextToken 187 = .ok (.aload_n 0, 1) := by decide +kernel
theorem dX9_nextToken_188 : decode cX9_nextToken 188 = .ok (.aload_n 0, 1) := by decide +kernel
theorem dX9_nextToken_189 : decode cX9_nextToken 189 = .ok (.getfield 25, 3) := by decide +kernel
theorem dX9_nextToken_192 : decode cX9_nextToken 192 = .ok (.aload_n 0, 1) := by decide +kernel
theorem dX9_nextToken_193 : decode cX9_nextToken 193 = .ok (.getfield 98, 3) := by decide +kernel
theorem dX9_nextToken_196 : decode cX9_nextToken 196 = .ok (.iaload, 1) := by decide +kernel
theorem dX9_nextToken_197 : decode cX9_nextToken 197 = .ok (.putfield 107, 3) := by decide +kernel
theorem dX9_nextToken_200 : decode cX9_nextToken 200 = .ok (.aload_n 0, 1) := by decide +kernel
theorem dX9_nextToken_201 : decode cX9_nextToken 201 = .ok (.dup, 1) := by decide +kernel
theorem dX9_nextToken_202 : decode cX9_nextToken 202 = .ok (.getfield 98, 3) := by decide +kernel
theorem dX9_nextToken_205 : decode cX9_nextToken 205 = .ok (.iconst 1, 1) := by decide +kernel
theorem dX9_nextToken_206 : decode cX9_nextToken 206 = .ok (.iadd, 1) := by decide +kernel
theorem dX9_nextToken_207 : decode cX9_nextToken 207 = .ok (.putfield 98, 3) := by decide +kernel
theorem dX9_nextToken_210 : decode cX9_nextToken 210 = .ok (.return_, 1) := by decide +kernel
theorem dX9_faults_0 : decode cX9_faults 0 = .ok (.aload_n 0, 1) := by decide +kernel
theorem dX9_faults_1 : decode cX9_faults 1 = .ok (.iload_n 1, 1) := by decide +kernel
theorem dX9_faults_2 : decode cX9_faults 2 = .ok (.putfield 117, 3) := by decide +kernel
theorem dX9_faults_5 : decode cX9_faults 5 = .ok (.iconst 0, 1) := by decide +kernel
theorem dX9_faults_6 : decode cX9_faults 6 = .ok (.ireturn, 1) := by decide +kernel
theorem dX9_takes_0 : decode cX9_takes 0 = .ok (.aload_n 0, 1) := by decide +kernel
theorem dX9_takes_1 : decode cX9_takes 1 = .ok (.getfield 104, 3) := by decide +kernel
theorem dX9_takes_4 : decode cX9_takes 4 = .ok (.iconst 1, 1) := by decide +kernel
theorem dX9_takes_5 : decode cX9_takes 5 = .ok (.if_icmp .ne 11, 3) := by decide +kernel
theorem dX9_takes_8 : decode cX9_takes 8 = .ok (.aload_n 0, 1) := by decide +kernel
theorem dX9_takes_9 : decode cX9_takes 9 = .ok (.getfield 107, 3) := by decide +kernel
theorem dX9_takes_12 : decode cX9_takes 12 = .ok (.iload_n 1, 1) := by decide +kernel
theorem dX9_takes_13 : decode cX9_takes 13 = .ok (.if_icmp .eq 9, 3) := by decide +kernel
theorem dX9_takes_16 : decode cX9_takes 16 = .ok (.aload_n 0, 1) := by decide +kernel
theorem dX9_takes_17 : decode cX9_takes 17 = .ok (.iconst 1, 1) := by decide +kernel
theorem dX9_takes_18 : decode cX9_takes 18 = .ok (.invokevirtual 120, 3) := by decide +kernel
theorem dX9_takes_21 : decode cX9_takes 21 = .ok (.ireturn, 1) := by decide +kernel
theorem dX9_takes_22 : decode cX9_takes 22 = .ok (.aload_n 0, 1) := by decide +kernel
theorem dX9_takes_23 : decode cX9_takes 23 = .ok (.invokevirtual 123, 3) := by decide +kernel
theorem dX9_takes_26 : decode cX9_takes 26 = .ok (.iconst 1, 1) := by decide +kernel
theorem dX9_takes_27 : decode cX9_takes 27 = .ok (.ireturn, 1) := by decide +kernel
theorem dX9_isNumber_0 : decode cX9_isNumber 0 = .ok (.aload_n 0, 1) := by decide +kernel
theorem dX9_isNumber_1 : decode cX9_isNumber 1 = .ok (.getfield 104, 3) := by decide +kernel
theorem dX9_isNumber_4 : decode cX9_isNumber 4 = .ok (.iconst 2, 1) := by decide +kernel
theorem dX9_isNumber_5 : decode cX9_isNumber 5 = .ok (.if_icmp .ne 34, 3) := by decide +kernel
theorem dX9_isNumber_8 : decode cX9_isNumber 8 = .ok (.aload_n 0, 1) := by decide +kernel
theorem dX9_isNumber_9 : decode cX9_isNumber 9 = .ok (.getfield 107, 3) := by decide +kernel
theorem dX9_isNumber_12 : decode cX9_isNumber 12 = .ok (.i2l, 1) := by decide +kernel
theorem dX9_isNumber_13 : decode cX9_isNumber 13 = .ok (.iload_n 1, 1) := by decide +kernel
theorem dX9_isNumber_14 : decode cX9_isNumber 14 = .ok (.i2l, 1) := by decide +kernel
theorem dX9_isNumber_15 : decode cX9_isNumber 15 = .ok (.iload_n 2, 1) := by decide +kernel
theorem dX9_isNumber_16 : decode cX9_isNumber 16 = .ok (.i2l, 1) := by decide +kernel
theorem dX9_isNumber_17 : decode cX9_isNumber 17 = .ok (.invokestatic 66, 3) := by decide +kernel
theorem dX9_isNumber_20 : decode cX9_isNumber 20 = .ok (.ifCond .ne 11, 3) := by decide +kernel
theorem dX9_isNumber_23 : decode cX9_isNumber 23 = .ok (.aload_n 0, 1) := by decide +kernel
theorem dX9_isNumber_24 : decode cX9_isNumber 24 = .ok (.iconst 2, 1) := by decide +kernel
theorem dX9_isNumber_25 : decode cX9_isNumber 25 = .ok (.invokevirtual 120, 3) := by decide +kernel
theorem dX9_isNumber_28 : decode cX9_isNumber 28 = .ok (.ifCond .eq 7, 3) := by decide +kernel
theorem dX9_isNumber_31 : decode cX9_isNumber 31 = .ok (.iconst 1, 1) := by decide +kernel
theorem dX9_isNumber_32 : decode cX9_isNumber 32 = .ok (.goto 12, 3) := by decide +kernel
theorem dX9_isNumber_35 : decode cX9_isNumber 35 = .ok (.iconst 0, 1) := by decide +kernel
theorem dX9_isNumber_36 : decode cX9_isNumber 36 = .ok (.goto 8, 3) := by decide +kernel
theorem dX9_isNumber_39 : decode cX9_isNumber 39 = .ok (.aload_n 0, 1) := by decide +kernel
theorem dX9_isNumber_40 : decode cX9_isNumber 40 = .ok (.iconst 1, 1) := by decide +kernel
theorem dX9_isNumber_41 : decode cX9_isNumber 41 = .ok (.invokevirtual 120, 3) := by decide +kernel
theorem dX9_isNumber_44 : decode cX9_isNumber 44 = .ok (.ireturn, 1) := by decide +kernel
theorem dX9_taken_0 : decode cX9_taken 0 = .ok (.aload_n 0, 1) := by decide +kernel
theorem dX9_taken_1 : decode cX9_taken 1 = .ok (.getfield 107, 3) := by decide +kernel
theorem dX9_taken_4 : decode cX9_taken 4 = .ok (.istore_n 1, 1) := by decide +kernel
theorem dX9_taken_5 : decode cX9_taken 5 = .ok (.aload_n 0, 1) := by decide +kernel
theorem dX9_taken_6 : decode cX9_taken 6 = .ok (.invokevirtual 123, 3) := by decide +kernel
theorem dX9_taken_9 : decode cX9_taken 9 = .ok (.iload_n 1, 1) := by decide +kernel
theorem dX9_taken_10 : decode cX9_taken 10 = .ok (.ireturn, 1) := by decide +kernel
theorem dX9_readLegs_0 : decode cX9_readLegs 0 = .ok (.aload_n 0, 1) := by decide +kernel
theorem dX9_readLegs_1 : decode cX9_readLegs 1 = .ok (.bipush 119, 2) := by decide +kernel
theorem dX9_readLegs_3 : decode cX9_readLegs 3 = .ok (.invokevirtual 126, 3) := by decide +kernel
theorem dX9_readLegs_6 : decode cX9_readLegs 6 = .ok (.ifCond .ne 5, 3) := by decide +kernel
theorem dX9_readLegs_9 : decode cX9_readLegs 9 = .ok (.iconst 0, 1) := by decide +kernel
theorem dX9_readLegs_10 : decode cX9_readLegs 10 = .ok (.ireturn, 1) := by decide +kernel
theorem dX9_readLegs_11 : decode cX9_readLegs 11 = .ok (.iconst 1, 1) := by decide +kernel
theorem dX9_readLegs_12 : decode cX9_readLegs 12 = .ok (.istore_n 1, 1) := by decide +kernel
theorem dX9_readLegs_13 : decode cX9_readLegs 13 = .ok (.iload_n 1, 1) := by decide +kernel
theorem dX9_readLegs_14 : decode cX9_readLegs 14 = .ok (.ifCond .eq 97, 3) := by decide +kernel
theorem dX9_readLegs_17 : decode cX9_readLegs 17 = .ok (.aload_n 0, 1) := by decide +kernel
theorem dX9_readLegs_18 : decode cX9_readLegs 18 = .ok (.iconst 1, 1) := by decide +kernel
theorem dX9_readLegs_19 : decode cX9_readLegs 19 = .ok (.bipush 9, 2) := by decide +kernel
theorem dX9_readLegs_21 : decode cX9_readLegs 21 = .ok (.invokevirtual 129, 3) := by decide +kernel
theorem dX9_readLegs_24 : decode cX9_readLegs 24 = .ok (.ifCond .eq 23, 3) := by decide +kernel
theorem dX9_readLegs_27 : decode cX9_readLegs 27 = .ok (.aload_n 0, 1) := by decide +kernel
theorem dX9_readLegs_28 : decode cX9_readLegs 28 = .ok (.getfield 28, 3) := by decide +kernel
theorem dX9_readLegs_31 : decode cX9_readLegs 31 = .ok (.bipush 8, 2) := by decide +kernel
theorem dX9_readLegs_33 : decode cX9_readLegs 33 = .ok (.iaload, 1) := by decide +kernel
theorem dX9_readLegs_34 : decode cX9_readLegs 34 = .ok (.bipush 8, 2) := by decide +kernel
theorem dX9_readLegs_36 : decode cX9_readLegs 36 = .ok (.if_icmp .ne 13, 3) := by decide +kernel
theorem dX9_readLegs_39 : decode cX9_readLegs 39 = .ok (.aload_n 0, 1) := by decide +kernel
theorem dX9_readLegs_40 : decode cX9_readLegs 40 = .ok (.iconst 3, 1) := by decide +kernel
theorem dX9_readLegs_41 : decode cX9_readLegs 41 = .ok (.invokevirtual 120, 3) := by decide +kernel
theorem dX9_readLegs_44 : decode cX9_readLegs 44 = .ok (.ifCond .ne 5, 3) := by decide +kernel
theorem dX9_readLegs_47 : decode cX9_readLegs 47 = .ok (.iconst 0, 1) := by decide +kernel
theorem dX9_readLegs_48 : decode cX9_readLegs 48 = .ok (.ireturn, 1) := by decide +kernel
theorem dX9_readLegs_49 : decode cX9_readLegs 49 = .ok (.aload_n 0, 1) := by decide +kernel
theorem dX9_readLegs_50 : decode cX9_readLegs 50 = .ok (.getfield 28, 3) := by decide +kernel
theorem dX9_readLegs_53 : decode cX9_readLegs 53 = .ok (.aload_n 0, 1) := by decide +kernel
theorem dX9_readLegs_54 : decode cX9_readLegs 54 = .ok (.getfield 28, 3) := by decide +kernel
theorem dX9_readLegs_57 : decode cX9_readLegs 57 = .ok (.bipush 8, 2) := by decide +kernel
theorem dX9_readLegs_59 : decode cX9_readLegs 59 = .ok (.iaload, 1) := by decide +kernel
theorem dX9_readLegs_60 : decode cX9_readLegs 60 = .ok (.aload_n 0, 1) := by decide +kernel
theorem dX9_readLegs_61 : decode cX9_readLegs 61 = .ok (.invokevirtual 133, 3) := by decide +kernel
theorem dX9_readLegs_64 : decode cX9_readLegs 64 = .ok (.iastore, 1) := by decide +kernel
theorem dX9_readLegs_65 : decode cX9_readLegs 65 = .ok (.aload_n 0, 1) := by decide +kernel
theorem dX9_readLegs_66 : decode cX9_readLegs 66 = .ok (.getfield 28, 3) := by decide +kernel
theorem dX9_readLegs_69 : decode cX9_readLegs 69 = .ok (.bipush 8, 2) := by decide +kernel
theorem dX9_readLegs_71 : decode cX9_readLegs 71 = .ok (.dup2, 1) := by decide +kernel
theorem dX9_readLegs_72 : decode cX9_readLegs 72 = .ok (.iaload, 1) := by decide +kernel
theorem dX9_readLegs_73 : decode cX9_readLegs 73 = .ok (.iconst 1, 1) := by decide +kernel
theorem dX9_readLegs_74 : decode cX9_readLegs 74 = .ok (.iadd, 1) := by decide +kernel
theorem dX9_readLegs_75 : decode cX9_readLegs 75 = .ok (.iastore, 1) := by decide +kernel
theorem dX9_readLegs_76 : decode cX9_readLegs 76 = .ok (.aload_n 0, 1) := by decide +kernel
theorem dX9_readLegs_77 : decode cX9_readLegs 77 = .ok (.getfield 104, 3) := by decide +kernel
theorem dX9_readLegs_80 : decode cX9_readLegs 80 = .ok (.iconst 1, 1) := by decide +kernel
theorem dX9_readLegs_81 : decode cX9_readLegs 81 = .ok (.if_icmp .ne 25, 3) := by decide +kernel
theorem dX9_readLegs_84 : decode cX9_readLegs 84 = .ok (.aload_n 0, 1) := by decide +kernel
theorem dX9_readLegs_85 : decode cX9_readLegs 85 = .ok (.getfield 107, 3) := by decide +kernel
theorem dX9_readLegs_88 : decode cX9_readLegs 88 = .ok (.bipush 44, 2) := by decide +kernel
theorem dX9_readLegs_90 : decode cX9_readLegs 90 = .ok (.if_icmp .ne 16, 3) := by decide +kernel
theorem dX9_readLegs_93 : decode cX9_readLegs 93 = .ok (.aload_n 0, 1) := by decide +kernel
theorem dX9_readLegs_94 : decode cX9_readLegs 94 = .ok (.bipush 44, 2) := by decide +kernel
theorem dX9_readLegs_96 : decode cX9_readLegs 96 = .ok (.invokevirtual 126, 3) := by decide +kernel
theorem dX9_readLegs_99 : decode cX9_readLegs 99 = .ok (.ifCond .eq 7, 3) := by decide +kernel
theorem dX9_readLegs_102 : decode cX9_readLegs 102 = .ok (.iconst 1, 1) := by decide +kernel
theorem dX9_readLegs_103 : decode cX9_readLegs 103 = .ok (.goto 4, 3) := by decide +kernel
theorem dX9_readLegs_106 : decode cX9_readLegs 106 = .ok (.iconst 0, 1) := by decide +kernel
theorem dX9_readLegs_107 : decode cX9_readLegs 107 = .ok (.istore_n 1, 1) := by decide +kernel
theorem dX9_readLegs_108 : decode cX9_readLegs 108 = .ok (.goto (-95), 3) := by decide +kernel
theorem dX9_readLegs_111 : decode cX9_readLegs 111 = .ok (.aload_n 0, 1) := by decide +kernel
theorem dX9_readLegs_112 : decode cX9_readLegs 112 = .ok (.bipush 59, 2) := by decide +kernel
theorem dX9_readLegs_114 : decode cX9_readLegs 114 = .ok (.invokevirtual 126, 3) := by decide +kernel
theorem dX9_readLegs_117 : decode cX9_readLegs 117 = .ok (.ireturn, 1) := by decide +kernel
theorem dX9_readRule_0 : decode cX9_readRule 0 = .ok (.aload_n 0, 1) := by decide +kernel
theorem dX9_readRule_1 : decode cX9_readRule 1 = .ok (.bipush 114, 2) := by decide +kernel
theorem dX9_readRule_3 : decode cX9_readRule 3 = .ok (.invokevirtual 126, 3) := by decide +kernel
theorem dX9_readRule_6 : decode cX9_readRule 6 = .ok (.ifCond .eq 12, 3) := by decide +kernel
theorem dX9_readRule_9 : decode cX9_readRule 9 = .ok (.aload_n 0, 1) := by decide +kernel
theorem dX9_readRule_10 : decode cX9_readRule 10 = .ok (.iconst 0, 1) := by decide +kernel
theorem dX9_readRule_11 : decode cX9_readRule 11 = .ok (.iconst 3, 1) := by decide +kernel
theorem dX9_readRule_12 : decode cX9_readRule 12 = .ok (.invokevirtual 129, 3) := by decide +kernel
theorem dX9_readRule_15 : decode cX9_readRule 15 = .ok (.ifCond .ne 5, 3) := by decide +kernel
theorem dX9_readRule_18 : decode cX9_readRule 18 = .ok (.iconst 0, 1) := by decide +kernel
theorem dX9_readRule_19 : decode cX9_readRule 19 = .ok (.ireturn, 1) := by decide +kernel
theorem dX9_readRule_20 : decode cX9_readRule 20 = .ok (.aload_n 0, 1) := by decide +kernel
theorem dX9_readRule_21 : decode cX9_readRule 21 = .ok (.getfield 28, 3) := by decide +kernel
theorem dX9_readRule_24 : decode cX9_readRule 24 = .ok (.bipush 10, 2) := by decide +kernel
theorem dX9_readRule_26 : decode cX9_readRule 26 = .ok (.aload_n 0, 1) := by decide +kernel
theorem dX9_readRule_27 : decode cX9_readRule 27 = .ok (.invokevirtual 133, 3) := by decide +kernel
theorem dX9_readRule_30 : decode cX9_readRule 30 = .ok (.iastore, 1) := by decide +kernel
theorem dX9_readRule_31 : decode cX9_readRule 31 = .ok (.aload_n 0, 1) := by decide +kernel
theorem dX9_readRule_32 : decode cX9_readRule 32 = .ok (.bipush 44, 2) := by decide +kernel
theorem dX9_readRule_34 : decode cX9_readRule 34 = .ok (.invokevirtual 126, 3) := by decide +kernel
theorem dX9_readRule_37 : decode cX9_readRule 37 = .ok (.ifCond .eq 13, 3) := by decide +kernel
theorem dX9_readRule_40 : decode cX9_readRule 40 = .ok (.aload_n 0, 1) := by decide +kernel
theorem dX9_readRule_41 : decode cX9_readRule 41 = .ok (.iconst 0, 1) := by decide +kernel
theorem dX9_readRule_42 : decode cX9_readRule 42 = .ok (.bipush 30, 2) := by decide +kernel
theorem dX9_readRule_44 : decode cX9_readRule 44 = .ok (.invokevirtual 129, 3) := by decide +kernel
theorem dX9_readRule_47 : decode cX9_readRule 47 = .ok (.ifCond .ne 5, 3) := by decide +kernel
theorem dX9_readRule_50 : decode cX9_readRule 50 = .ok (.iconst 0, 1) := by decide +kernel
theorem dX9_readRule_51 : decode cX9_readRule 51 = .ok (.ireturn, 1) := by decide +kernel
theorem dX9_readRule_52 : decode cX9_readRule 52 = .ok (.aload_n 0, 1) := by decide +kernel
theorem dX9_readRule_53 : decode cX9_readRule 53 = .ok (.getfield 28, 3) := by decide +kernel
theorem dX9_readRule_56 : decode cX9_readRule 56 = .ok (.bipush 11, 2) := by decide +kernel
theorem dX9_readRule_58 : decode cX9_readRule 58 = .ok (.aload_n 0, 1) := by decide +kernel
theorem dX9_readRule_59 : decode cX9_readRule 59 = .ok (.invokevirtual 133, 3) := by decide +kernel
theorem dX9_readRule_62 : decode cX9_readRule 62 = .ok (.iastore, 1) := by decide +kernel
theorem dX9_readRule_63 : decode cX9_readRule 63 = .ok (.aload_n 0, 1) := by decide +kernel
theorem dX9_readRule_64 : decode cX9_readRule 64 = .ok (.bipush 44, 2) := by decide +kernel
theorem dX9_readRule_66 : decode cX9_readRule 66 = .ok (.invokevirtual 126, 3) := by decide +kernel
theorem dX9_readRule_69 : decode cX9_readRule 69 = .ok (.ifCond .eq 14, 3) := by decide +kernel
theorem dX9_readRule_72 : decode cX9_readRule 72 = .ok (.aload_n 0, 1) := by decide +kernel
theorem dX9_readRule_73 : decode cX9_readRule 73 = .ok (.iconst 1, 1) := by decide +kernel
theorem dX9_readRule_74 : decode cX9_readRule 74 = .ok (.sipush 999, 3) := by decide +kernel
theorem dX9_readRule_77 : decode cX9_readRule 77 = .ok (.invokevirtual 129, 3) := by decide +kernel
theorem dX9_readRule_80 : decode cX9_readRule 80 = .ok (.ifCond .ne 5, 3) := by decide +kernel
theorem dX9_readRule_83 : decode cX9_readRule 83 = .ok (.iconst 0, 1) := by decide +kernel
theorem dX9_readRule_84 : decode cX9_readRule 84 = .ok (.ireturn, 1) := by decide +kernel
theorem dX9_readRule_85 : decode cX9_readRule 85 = .ok (.aload_n 0, 1) := by decide +kernel
theorem dX9_readRule_86 : decode cX9_readRule 86 = .ok (.getfield 28, 3) := by decide +kernel
theorem dX9_readRule_89 : decode cX9_readRule 89 = .ok (.bipush 12, 2) := by decide +kernel
theorem dX9_readRule_91 : decode cX9_readRule 91 = .ok (.aload_n 0, 1) := by decide +kernel
theorem dX9_readRule_92 : decode cX9_readRule 92 = .ok (.invokevirtual 133, 3) := by decide +kernel
theorem dX9_readRule_95 : decode cX9_readRule 95 = .ok (.iastore, 1) := by decide +kernel
theorem dX9_readRule_96 : decode cX9_readRule 96 = .ok (.aload_n 0, 1) := by decide +kernel
theorem dX9_readRule_97 : decode cX9_readRule 97 = .ok (.bipush 59, 2) := by decide +kernel
theorem dX9_readRule_99 : decode cX9_readRule 99 = .ok (.invokevirtual 126, 3) := by decide +kernel
theorem dX9_readRule_102 : decode cX9_readRule 102 = .ok (.ireturn, 1) := by decide +kernel
theorem dX9_readWalker_0 : decode cX9_readWalker 0 = .ok (.aload_n 0, 1) := by decide +kernel
theorem dX9_readWalker_1 : decode cX9_readWalker 1 = .ok (.getfield 104, 3) := by decide +kernel
theorem dX9_readWalker_4 : decode cX9_readWalker 4 = .ok (.iconst 1, 1) := by decide +kernel
theorem dX9_readWalker_5 : decode cX9_readWalker 5 = .ok (.if_icmp .ne 10, 3) := by decide +kernel
theorem dX9_readWalker_8 : decode cX9_readWalker 8 = .ok (.aload_n 0, 1) := by decide +kernel
theorem dX9_readWalker_9 : decode cX9_readWalker 9 = .ok (.getfield 107, 3) := by decide +kernel
theorem dX9_readWalker_12 : decode cX9_readWalker 12 = .ok (.goto 4, 3) := by decide +kernel
theorem dX9_readWalker_15 : decode cX9_readWalker 15 = .ok (.iconst 0, 1) := by decide +kernel
theorem dX9_readWalker_16 : decode cX9_readWalker 16 = .ok (.istore_n 1, 1) := by decide +kernel
theorem dX9_readWalker_17 : decode cX9_readWalker 17 = .ok (.iload_n 1, 1) := by decide +kernel
theorem dX9_readWalker_18 : decode cX9_readWalker 18 = .ok (.bipush 115, 2) := by decide +kernel
theorem dX9_readWalker_20 : decode cX9_readWalker 20 = .ok (.if_icmp .ne 7, 3) := by decide +kernel
theorem dX9_readWalker_23 : decode cX9_readWalker 23 = .ok (.iconst 1, 1) := by decide +kernel
theorem dX9_readWalker_24 : decode cX9_readWalker 24 = .ok (.goto 44, 3) := by decide +kernel
theorem dX9_readWalker_27 : decode cX9_readWalker 27 = .ok (.iload_n 1, 1) := by decide +kernel
theorem dX9_readWalker_28 : decode cX9_readWalker 28 = .ok (.bipush 113, 2) := by decide +kernel
theorem dX9_readWalker_30 : decode cX9_readWalker 30 = .ok (.if_icmp .ne 7, 3) := by decide +kernel
theorem dX9_readWalker_33 : decode cX9_readWalker 33 = .ok (.iconst 2, 1) := by decide +kernel
theorem dX9_readWalker_34 : decode cX9_readWalker 34 = .ok (.goto 34, 3) := by decide +kernel
theorem dX9_readWalker_37 : decode cX9_readWalker 37 = .ok (.iload_n 1, 1) := by decide +kernel
theorem dX9_readWalker_38 : decode cX9_readWalker 38 = .ok (.bipush 112, 2) := by decide +kernel
theorem dX9_readWalker_40 : decode cX9_readWalker 40 = .ok (.if_icmp .ne 7, 3) := by decide +kernel
theorem dX9_readWalker_43 : decode cX9_readWalker 43 = .ok (.iconst 3, 1) := by decide +kernel
theorem dX9_readWalker_44 : decode cX9_readWalker 44 = .ok (.goto 24, 3) := by decide +kernel
theorem dX9_readWalker_47 : decode cX9_readWalker 47 = .ok (.iload_n 1, 1) := by decide +kernel
theorem dX9_readWalker_48 : decode cX9_readWalker 48 = .ok (.bipush 111, 2) := by decide +kernel
theorem dX9_readWalker_50 : decode cX9_readWalker 50 = .ok (.if_icmp .ne 7, 3) := by decide +kernel
theorem dX9_readWalker_53 : decode cX9_readWalker 53 = .ok (.iconst 4, 1) := by decide +kernel
theorem dX9_readWalker_54 : decode cX9_readWalker 54 = .ok (.goto 14, 3) := by decide +kernel
theorem dX9_readWalker_57 : decode cX9_readWalker 57 = .ok (.iload_n 1, 1) := by decide +kernel
theorem dX9_readWalker_58 : decode cX9_readWalker 58 = .ok (.bipush 108, 2) := by decide +kernel
theorem dX9_readWalker_60 : decode cX9_readWalker 60 = .ok (.if_icmp .ne 7, 3) := by decide +kernel
theorem dX9_readWalker_63 : decode cX9_readWalker 63 = .ok (.iconst 5, 1) := by decide +kernel
theorem dX9_readWalker_64 : decode cX9_readWalker 64 = .ok (.goto 4, 3) := by decide +kernel
theorem dX9_readWalker_67 : decode cX9_readWalker 67 = .ok (.iconst 0, 1) := by decide +kernel
theorem dX9_readWalker_68 : decode cX9_readWalker 68 = .ok (.istore_n 2, 1) := by decide +kernel
theorem dX9_readWalker_69 : decode cX9_readWalker 69 = .ok (.iload_n 2, 1) := by decide +kernel
theorem dX9_readWalker_70 : decode cX9_readWalker 70 = .ok (.ifCond .eq 15, 3) := by decide +kernel
theorem dX9_readWalker_73 : decode cX9_readWalker 73 = .ok (.aload_n 0, 1) := by decide +kernel
theorem dX9_readWalker_74 : decode cX9_readWalker 74 = .ok (.getfield 28, 3) := by decide +kernel
theorem dX9_readWalker_77 : decode cX9_readWalker 77 = .ok (.bipush 13, 2) := by decide +kernel
theorem dX9_readWalker_79 : decode cX9_readWalker 79 = .ok (.iaload, 1) := by decide +kernel
theorem dX9_readWalker_80 : decode cX9_readWalker 80 = .ok (.bipush 6, 2) := by decide +kernel
theorem dX9_readWalker_82 : decode cX9_readWalker 82 = .ok (.if_icmp .ne 17, 3) := by decide +kernel
theorem dX9_readWalker_85 : decode cX9_readWalker 85 = .ok (.aload_n 0, 1) := by decide +kernel
theorem dX9_readWalker_86 : decode cX9_readWalker 86 = .ok (.iload_n 2, 1) := by decide +kernel
theorem dX9_readWalker_87 : decode cX9_readWalker 87 = .ok (.ifCond .ne 7, 3) := by decide +kernel
theorem dX9_readWalker_90 : decode cX9_readWalker 90 = .ok (.iconst 1, 1) := by decide +kernel
theorem dX9_readWalker_91 : decode cX9_readWalker 91 = .ok (.goto 4, 3) := by decide +kernel
theorem dX9_readWalker_94 : decode cX9_readWalker 94 = .ok (.iconst 3, 1) := by decide +kernel
theorem dX9_readWalker_95 : decode cX9_readWalker 95 = .ok (.invokevirtual 120, 3) := by decide +kernel
theorem dX9_readWalker_98 : decode cX9_readWalker 98 = .ok (.ireturn, 1) := by decide +kernel
theorem dX9_readWalker_99 : decode cX9_readWalker 99 = .ok (.aload_n 0, 1) := by decide +kernel
theorem dX9_readWalker_100 : decode cX9_readWalker 100 = .ok (.getfield 28, 3) := by decide +kernel
theorem dX9_readWalker_103 : decode cX9_readWalker 103 = .ok (.bipush 13, 2) := by decide +kernel
theorem dX9_readWalker_105 : decode cX9_readWalker 105 = .ok (.iaload, 1) := by decide +kernel
theorem dX9_readWalker_106 : decode cX9_readWalker 106 = .ok (.istore_n 3, 1) := by decide +kernel
theorem dX9_readWalker_107 : decode cX9_readWalker 107 = .ok (.aload_n 0, 1) := by decide +kernel
theorem dX9_readWalker_108 : decode cX9_readWalker 108 = .ok (.invokevirtual 123, 3) := by decide +kernel
theorem dX9_readWalker_111 : decode cX9_readWalker 111 = .ok (.aload_n 0, 1) := by decide +kernel
theorem dX9_readWalker_112 : decode cX9_readWalker 112 = .ok (.iconst 1, 1) := by decide +kernel
theorem dX9_readWalker_113 : decode cX9_readWalker 113 = .ok (.bipush 20, 2) := by decide +kernel
theorem dX9_readWalker_115 : decode cX9_readWalker 115 = .ok (.invokevirtual 129, 3) := by decide +kernel
theorem dX9_readWalker_118 : decode cX9_readWalker 118 = .ok (.ifCond .ne 5, 3) := by decide +kernel
theorem dX9_readWalker_121 : decode cX9_readWalker 121 = .ok (.iconst 0, 1) := by decide +kernel
theorem dX9_readWalker_122 : decode cX9_readWalker 122 = .ok (.ireturn, 1) := by decide +kernel
theorem dX9_readWalker_123 : decode cX9_readWalker 123 = .ok (.aload_n 0, 1) := by decide +kernel
theorem dX9_readWalker_124 : decode cX9_readWalker 124 = .ok (.getfield 28, 3) := by decide +kernel
theorem dX9_readWalker_127 : decode cX9_readWalker 127 = .ok (.bipush 14, 2) := by decide +kernel
theorem dX9_readWalker_129 : decode cX9_readWalker 129 = .ok (.iload_n 3, 1) := by decide +kernel
theorem dX9_readWalker_130 : decode cX9_readWalker 130 = .ok (.iadd, 1) := by decide +kernel
theorem dX9_readWalker_131 : decode cX9_readWalker 131 = .ok (.iload_n 2, 1) := by decide +kernel
theorem dX9_readWalker_132 : decode cX9_readWalker 132 = .ok (.iastore, 1) := by decide +kernel
theorem dX9_readWalker_133 : decode cX9_readWalker 133 = .ok (.aload_n 0, 1) := by decide +kernel
theorem dX9_readWalker_134 : decode cX9_readWalker 134 = .ok (.getfield 28, 3) := by decide +kernel
theorem dX9_readWalker_137 : decode cX9_readWalker 137 = .ok (.bipush 20, 2) := by decide +kernel
theorem dX9_readWalker_139 : decode cX9_readWalker 139 = .ok (.iload_n 3, 1) := by decide +kernel
theorem dX9_readWalker_140 : decode cX9_readWalker 140 = .ok (.iadd, 1) := by decide +kernel
theorem dX9_readWalker_141 : decode cX9_readWalker 141 = .ok (.aload_n 0, 1) := by decide +kernel
theorem dX9_readWalker_142 : decode cX9_readWalker 142 = .ok (.invokevirtual 133, 3) := by decide +kernel
theorem dX9_readWalker_145 : decode cX9_readWalker 145 = .ok (.iastore, 1) := by decide +kernel
theorem dX9_readWalker_146 : decode cX9_readWalker 146 = .ok (.aload_n 0, 1) := by decide +kernel
theorem dX9_readWalker_147 : decode cX9_readWalker 147 = .ok (.bipush 44, 2) := by decide +kernel
theorem dX9_readWalker_149 : decode cX9_readWalker 149 = .ok (.invokevirtual 126, 3) := by decide +kernel
theorem dX9_readWalker_152 : decode cX9_readWalker 152 = .ok (.ifCond .eq 13, 3) := by decide +kernel
theorem dX9_readWalker_155 : decode cX9_readWalker 155 = .ok (.aload_n 0, 1) := by decide +kernel
theorem dX9_readWalker_156 : decode cX9_readWalker 156 = .ok (.iconst 0, 1) := by decide +kernel
theorem dX9_readWalker_157 : decode cX9_readWalker 157 = .ok (.bipush 9, 2) := by decide +kernel
theorem dX9_readWalker_159 : decode cX9_readWalker 159 = .ok (.invokevirtual 129, 3) := by decide +kernel
theorem dX9_readWalker_162 : decode cX9_readWalker 162 = .ok (.ifCond .ne 5, 3) := by decide +kernel
theorem dX9_readWalker_165 : decode cX9_readWalker 165 = .ok (.iconst 0, 1) := by decide +kernel
theorem dX9_readWalker_166 : decode cX9_readWalker 166 = .ok (.ireturn, 1) := by decide +kernel
theorem dX9_readWalker_167 : decode cX9_readWalker 167 = .ok (.aload_n 0, 1) := by decide +kernel
theorem dX9_readWalker_168 : decode cX9_readWalker 168 = .ok (.getfield 28, 3) := by decide +kernel
theorem dX9_readWalker_171 : decode cX9_readWalker 171 = .ok (.bipush 26, 2) := by decide +kernel
theorem dX9_readWalker_173 : decode cX9_readWalker 173 = .ok (.iload_n 3, 1) := by decide +kernel
theorem dX9_readWalker_174 : decode cX9_readWalker 174 = .ok (.iadd, 1) := by decide +kernel
theorem dX9_readWalker_175 : decode cX9_readWalker 175 = .ok (.aload_n 0, 1) := by decide +kernel
theorem dX9_readWalker_176 : decode cX9_readWalker 176 = .ok (.invokevirtual 133, 3) := by decide +kernel
theorem dX9_readWalker_179 : decode cX9_readWalker 179 = .ok (.iastore, 1) := by decide +kernel
theorem dX9_readWalker_180 : decode cX9_readWalker 180 = .ok (.aload_n 0, 1) := by decide +kernel
theorem dX9_readWalker_181 : decode cX9_readWalker 181 = .ok (.getfield 28, 3) := by decide +kernel
theorem dX9_readWalker_184 : decode cX9_readWalker 184 = .ok (.bipush 13, 2) := by decide +kernel
theorem dX9_readWalker_186 : decode cX9_readWalker 186 = .ok (.dup2, 1) := by decide +kernel
theorem dX9_readWalker_187 : decode cX9_readWalker 187 = .ok (.iaload, 1) := by decide +kernel
theorem dX9_readWalker_188 : decode cX9_readWalker 188 = .ok (.iconst 1, 1) := by decide +kernel
theorem dX9_readWalker_189 : decode cX9_readWalker 189 = .ok (.iadd, 1) := by decide +kernel
theorem dX9_readWalker_190 : decode cX9_readWalker 190 = .ok (.iastore, 1) := by decide +kernel
theorem dX9_readWalker_191 : decode cX9_readWalker 191 = .ok (.aload_n 0, 1) := by decide +kernel
theorem dX9_readWalker_192 : decode cX9_readWalker 192 = .ok (.bipush 59, 2) := by decide +kernel
theorem dX9_readWalker_194 : decode cX9_readWalker 194 = .ok (.invokevirtual 126, 3) := by decide +kernel
theorem dX9_readWalker_197 : decode cX9_readWalker 197 = .ok (.ireturn, 1) := by decide +kernel
theorem dX9_readWay_0 : decode cX9_readWay 0 = .ok (.aload_n 0, 1) := by decide +kernel
theorem dX9_readWay_1 : decode cX9_readWay 1 = .ok (.iconst 0, 1) := by decide +kernel
theorem dX9_readWay_2 : decode cX9_readWay 2 = .ok (.putfield 98, 3) := by decide +kernel
theorem dX9_readWay_5 : decode cX9_readWay 5 = .ok (.iconst 0, 1) := by decide +kernel
theorem dX9_readWay_6 : decode cX9_readWay 6 = .ok (.istore_n 1, 1) := by decide +kernel
theorem dX9_readWay_7 : decode cX9_readWay 7 = .ok (.iload_n 1, 1) := by decide +kernel
theorem dX9_readWay_8 : decode cX9_readWay 8 = .ok (.bipush 56, 2) := by decide +kernel
theorem dX9_readWay_10 : decode cX9_readWay 10 = .ok (.if_icmp .ge 16, 3) := by decide +kernel
theorem dX9_readWay_13 : decode cX9_readWay 13 = .ok (.aload_n 0, 1) := by decide +kernel
theorem dX9_readWay_14 : decode cX9_readWay 14 = .ok (.getfield 28, 3) := by decide +kernel
theorem dX9_readWay_17 : decode cX9_readWay 17 = .ok (.iload_n 1, 1) := by decide +kernel
theorem dX9_readWay_18 : decode cX9_readWay 18 = .ok (.iconst 0, 1) := by decide +kernel
theorem dX9_readWay_19 : decode cX9_readWay 19 = .ok (.iastore, 1) := by decide +kernel
theorem dX9_readWay_20 : decode cX9_readWay 20 = .ok (.iinc 1 1, 3) := by decide +kernel
theorem dX9_readWay_23 : decode cX9_readWay 23 = .ok (.goto (-16), 3) := by decide +kernel
theorem dX9_readWay_26 : decode cX9_readWay 26 = .ok (.aload_n 0, 1) := by decide +kernel
theorem dX9_readWay_27 : decode cX9_readWay 27 = .ok (.invokevirtual 123, 3) := by decide +kernel
theorem dX9_readWay_30 : decode cX9_readWay 30 = .ok (.aload_n 0, 1) := by decide +kernel
theorem dX9_readWay_31 : decode cX9_readWay 31 = .ok (.invokevirtual 137, 3) := by decide +kernel
theorem dX9_readWay_34 : decode cX9_readWay 34 = .ok (.ifCond .eq 10, 3) := by decide +kernel
theorem dX9_readWay_37 : decode cX9_readWay 37 = .ok (.aload_n 0, 1) := by decide +kernel
theorem dX9_readWay_38 : decode cX9_readWay 38 = .ok (.invokevirtual 141, 3) := by decide +kernel
theorem dX9_readWay_41 : decode cX9_readWay 41 = .ok (.ifCond .ne 5, 3) := by decide +kernel
theorem dX9_readWay_44 : decode cX9_readWay 44 = .ok (.iconst 0, 1) := by decide +kernel
theorem dX9_readWay_45 : decode cX9_readWay 45 = .ok (.ireturn, 1) := by decide +kernel
theorem dX9_readWay_46 : decode cX9_readWay 46 = .ok (.aload_n 0, 1) := by decide +kernel
theorem dX9_readWay_47 : decode cX9_readWay 47 = .ok (.getfield 104, 3) := by decide +kernel
theorem dX9_readWay_50 : decode cX9_readWay 50 = .ok (.iconst 3, 1) := by decide +kernel
theorem dX9_readWay_51 : decode cX9_readWay 51 = .ok (.if_icmp .eq 12, 3) := by decide +kernel
theorem dX9_readWay_54 : decode cX9_readWay 54 = .ok (.aload_n 0, 1) := by decide +kernel
theorem dX9_readWay_55 : decode cX9_readWay 55 = .ok (.invokevirtual 144, 3) := by decide +kernel
theorem dX9_readWay_58 : decode cX9_readWay 58 = .ok (.ifCond .ne (-12), 3) := by decide +kernel
theorem dX9_readWay_61 : decode cX9_readWay 61 = .ok (.iconst 0, 1) := by decide +kernel
theorem dX9_readWay_62 : decode cX9_readWay 62 = .ok (.ireturn, 1) := by decide +kernel
theorem dX9_readWay_63 : decode cX9_readWay 63 = .ok (.iconst 1, 1) := by decide +kernel
theorem dX9_readWay_64 : decode cX9_readWay 64 = .ok (.ireturn, 1) := by decide +kernel
theorem dX9_way_0 : decode cX9_way 0 = .ok (.aload_n 0, 1) := by decide +kernel
theorem dX9_way_1 : decode cX9_way 1 = .ok (.invokevirtual 147, 3) := by decide +kernel
theorem dX9_way_4 : decode cX9_way 4 = .ok (.istore_n 1, 1) := by decide +kernel
theorem dX9_way_5 : decode cX9_way 5 = .ok (.aload_n 0, 1) := by decide +kernel
theorem dX9_way_6 : decode cX9_way 6 = .ok (.iconst 0, 1) := by decide +kernel
theorem dX9_way_7 : decode cX9_way 7 = .ok (.putfield 90, 3) := by decide +kernel
theorem dX9_way_10 : decode cX9_way 10 = .ok (.iload_n 1, 1) := by decide +kernel
theorem dX9_way_11 : decode cX9_way 11 = .ok (.ifCond .ne 19, 3) := by decide +kernel
theorem dX9_way_14 : decode cX9_way 14 = .ok (.aload_n 0, 1) := by decide +kernel
theorem dX9_way_15 : decode cX9_way 15 = .ok (.aload_n 0, 1) := by decide +kernel
theorem dX9_way_16 : decode cX9_way 16 = .ok (.getfield 117, 3) := by decide +kernel
theorem dX9_way_19 : decode cX9_way 19 = .ok (.putfield 150, 3) := by decide +kernel
theorem dX9_way_22 : decode cX9_way 22 = .ok (.ldc 153, 2) := by decide +kernel
theorem dX9_way_24 : decode cX9_way 24 = .ok (.aload_n 0, 1) := by decide +kernel
theorem dX9_way_25 : decode cX9_way 25 = .ok (.getfield 101, 3) := by decide +kernel
theorem dX9_way_28 : decode cX9_way 28 = .ok (.isub, 1) := by decide +kernel
theorem dX9_way_29 : decode cX9_way 29 = .ok (.ireturn, 1) := by decide +kernel
theorem dX9_way_30 : decode cX9_way 30 = .ok (.iconst 0, 1) := by decide +kernel
theorem dX9_way_31 : decode cX9_way 31 = .ok (.istore_n 2, 1) := by decide +kernel
theorem dX9_way_32 : decode cX9_way 32 = .ok (.iload_n 2, 1) := by decide +kernel
theorem dX9_way_33 : decode cX9_way 33 = .ok (.bipush 56, 2) := by decide +kernel
theorem dX9_way_35 : decode cX9_way 35 = .ok (.if_icmp .ge 21, 3) := by decide +kernel
theorem dX9_way_38 : decode cX9_way 38 = .ok (.aload_n 0, 1) := by decide +kernel
theorem dX9_way_39 : decode cX9_way 39 = .ok (.getfield 19, 3) := by decide +kernel
theorem dX9_way_42 : decode cX9_way 42 = .ok (.iload_n 2, 1) := by decide +kernel
theorem dX9_way_43 : decode cX9_way 43 = .ok (.aload_n 0, 1) := by decide +kernel
theorem dX9_way_44 : decode cX9_way 44 = .ok (.getfield 28, 3) := by decide +kernel
theorem dX9_way_47 : decode cX9_way 47 = .ok (.iload_n 2, 1) := by decide +kernel
theorem dX9_way_48 : decode cX9_way 48 = .ok (.iaload, 1) := by decide +kernel
theorem dX9_way_49 : decode cX9_way 49 = .ok (.iastore, 1) := by decide +kernel
theorem dX9_way_50 : decode cX9_way 50 = .ok (.iinc 2 1, 3) := by decide +kernel
theorem dX9_way_53 : decode cX9_way 53 = .ok (.goto (-21), 3) := by decide +kernel
theorem dX9_way_56 : decode cX9_way 56 = .ok (.aload_n 0, 1) := by decide +kernel
theorem dX9_way_57 : decode cX9_way 57 = .ok (.iconst 1, 1) := by decide +kernel
theorem dX9_way_58 : decode cX9_way 58 = .ok (.putfield 154, 3) := by decide +kernel
theorem dX9_way_61 : decode cX9_way 61 = .ok (.aload_n 0, 1) := by decide +kernel
theorem dX9_way_62 : decode cX9_way 62 = .ok (.iconst 0, 1) := by decide +kernel
theorem dX9_way_63 : decode cX9_way 63 = .ok (.putfield 158, 3) := by decide +kernel
theorem dX9_way_66 : decode cX9_way 66 = .ok (.aload_n 0, 1) := by decide +kernel
theorem dX9_way_67 : decode cX9_way 67 = .ok (.getfield 19, 3) := by decide +kernel
theorem dX9_way_70 : decode cX9_way 70 = .ok (.bipush 13, 2) := by decide +kernel
theorem dX9_way_72 : decode cX9_way 72 = .ok (.iaload, 1) := by decide +kernel
theorem dX9_way_73 : decode cX9_way 73 = .ok (.ireturn, 1) := by decide +kernel
theorem dX9_fault_0 : decode cX9_fault 0 = .ok (.aload_n 0, 1) := by decide +kernel
theorem dX9_fault_1 : decode cX9_fault 1 = .ok (.getfield 150, 3) := by decide +kernel
theorem dX9_fault_4 : decode cX9_fault 4 = .ok (.ireturn, 1) := by decide +kernel
theorem dX9_takesFor_0 : decode cX9_takesFor 0 = .ok (.aload_n 0, 1) := by decide +kernel
theorem dX9_takesFor_1 : decode cX9_takesFor 1 = .ok (.getfield 19, 3) := by decide +kernel
theorem dX9_takesFor_4 : decode cX9_takesFor 4 = .ok (.bipush 14, 2) := by decide +kernel
theorem dX9_takesFor_6 : decode cX9_takesFor 6 = .ok (.iload_n 1, 1) := by decide +kernel
theorem dX9_takesFor_7 : decode cX9_takesFor 7 = .ok (.iadd, 1) := by decide +kernel
theorem dX9_takesFor_8 : decode cX9_takesFor 8 = .ok (.iaload, 1) := by decide +kernel
theorem dX9_takesFor_9 : decode cX9_takesFor 9 = .ok (.istore_n 3, 1) := by decide +kernel
theorem dX9_takesFor_10 : decode cX9_takesFor 10 = .ok (.aload_n 0, 1) := by decide +kernel
theorem dX9_takesFor_11 : decode cX9_takesFor 11 = .ok (.getfield 19, 3) := by decide +kernel
theorem dX9_takesFor_14 : decode cX9_takesFor 14 = .ok (.bipush 20, 2) := by decide +kernel
theorem dX9_takesFor_16 : decode cX9_takesFor 16 = .ok (.iload_n 1, 1) := by decide +kernel
theorem dX9_takesFor_17 : decode cX9_takesFor 17 = .ok (.iadd, 1) := by decide +kernel
theorem dX9_takesFor_18 : decode cX9_takesFor 18 = .ok (.iaload, 1) := by decide +kernel
theorem dX9_takesFor_19 : decode cX9_takesFor 19 = .ok (.aload_n 0, 1) := by decide +kernel
theorem dX9_takesFor_20 : decode cX9_takesFor 20 = .ok (.getfield 19, 3) := by decide +kernel
theorem dX9_takesFor_23 : decode cX9_takesFor 23 = .ok (.bipush 32, 2) := by decide +kernel
theorem dX9_takesFor_25 : decode cX9_takesFor 25 = .ok (.iload_n 1, 1) := by decide +kernel
theorem dX9_takesFor_26 : decode cX9_takesFor 26 = .ok (.iadd, 1) := by decide +kernel
theorem dX9_takesFor_27 : decode cX9_takesFor 27 = .ok (.iaload, 1) := by decide +kernel
theorem dX9_takesFor_28 : decode cX9_takesFor 28 = .ok (.iconst 2, 1) := by decide +kernel
theorem dX9_takesFor_29 : decode cX9_takesFor 29 = .ok (.aload_n 0, 1) := by decide +kernel
theorem dX9_takesFor_30 : decode cX9_takesFor 30 = .ok (.getfield 19, 3) := by decide +kernel
theorem dX9_takesFor_33 : decode cX9_takesFor 33 = .ok (.bipush 26, 2) := by decide +kernel
theorem dX9_takesFor_35 : decode cX9_takesFor 35 = .ok (.iload_n 1, 1) := by decide +kernel
theorem dX9_takesFor_36 : decode cX9_takesFor 36 = .ok (.iadd, 1) := by decide +kernel
theorem dX9_takesFor_37 : decode cX9_takesFor 37 = .ok (.iaload, 1) := by decide +kernel
theorem dX9_takesFor_38 : decode cX9_takesFor 38 = .ok (.imul, 1) := by decide +kernel
theorem dX9_takesFor_39 : decode cX9_takesFor 39 = .ok (.iadd, 1) := by decide +kernel
theorem dX9_takesFor_40 : decode cX9_takesFor 40 = .ok (.bipush 8, 2) := by decide +kernel
theorem dX9_takesFor_42 : decode cX9_takesFor 42 = .ok (.idiv, 1) := by decide +kernel
theorem dX9_takesFor_43 : decode cX9_takesFor 43 = .ok (.iadd, 1) := by decide +kernel
theorem dX9_takesFor_44 : decode cX9_takesFor 44 = .ok (.istore 4, 2) := by decide +kernel
theorem dX9_takesFor_46 : decode cX9_takesFor 46 = .ok (.iload_n 3, 1) := by decide +kernel
theorem dX9_takesFor_47 : decode cX9_takesFor 47 = .ok (.iconst 2, 1) := by decide +kernel
theorem dX9_takesFor_48 : decode cX9_takesFor 48 = .ok (.if_icmp .ne 20, 3) := by decide +kernel
theorem dX9_takesFor_51 : decode cX9_takesFor 51 = .ok (.iload 4, 2) := by decide +kernel
theorem dX9_takesFor_53 : decode cX9_takesFor 53 = .ok (.iconst 2, 1) := by decide +kernel
theorem dX9_takesFor_54 : decode cX9_takesFor 54 = .ok (.if_icmp .le 10, 3) := by decide +kernel
theorem dX9_takesFor_57 : decode cX9_takesFor 57 = .ok (.iload 4, 2) := by decide +kernel
theorem dX9_takesFor_59 : decode cX9_takesFor 59 = .ok (.iconst 1, 1) := by decide +kernel
theorem dX9_takesFor_60 : decode cX9_takesFor 60 = .ok (.isub, 1) := by decide +kernel
theorem dX9_takesFor_61 : decode cX9_takesFor 61 = .ok (.goto 21, 3) := by decide +kernel
theorem dX9_takesFor_64 : decode cX9_takesFor 64 = .ok (.iconst 1, 1) := by decide +kernel
theorem dX9_takesFor_65 : decode cX9_takesFor 65 = .ok (.goto 17, 3) := by decide +kernel
theorem dX9_takesFor_68 : decode cX9_takesFor 68 = .ok (.iload_n 3, 1) := by decide +kernel
theorem dX9_takesFor_69 : decode cX9_takesFor 69 = .ok (.iconst 4, 1) := by decide +kernel
theorem dX9_takesFor_70 : decode cX9_takesFor 70 = .ok (.if_icmp .lt 10, 3) := by decide +kernel
theorem dX9_takesFor_73 : decode cX9_takesFor 73 = .ok (.iload 4, 2) := by decide +kernel
theorem dX9_takesFor_75 : decode cX9_takesFor 75 = .ok (.iconst 3, 1) := by decide +kernel
theorem dX9_takesFor_76 : decode cX9_takesFor 76 = .ok (.iadd, 1) := by decide +kernel
theorem dX9_takesFor_77 : decode cX9_takesFor 77 = .ok (.goto 5, 3) := by decide +kernel
theorem dX9_takesFor_80 : decode cX9_takesFor 80 = .ok (.iload 4, 2) := by decide +kernel
theorem dX9_takesFor_82 : decode cX9_takesFor 82 = .ok (.istore 4, 2) := by decide +kernel
theorem dX9_takesFor_84 : decode cX9_takesFor 84 = .ok (.aload_n 0, 1) := by decide +kernel
theorem dX9_takesFor_85 : decode cX9_takesFor 85 = .ok (.getfield 19, 3) := by decide +kernel
theorem dX9_takesFor_88 : decode cX9_takesFor 88 = .ok (.iload_n 2, 1) := by decide +kernel
theorem dX9_takesFor_89 : decode cX9_takesFor 89 = .ok (.iaload, 1) := by decide +kernel
theorem dX9_takesFor_90 : decode cX9_takesFor 90 = .ok (.iload 4, 2) := by decide +kernel
theorem dX9_takesFor_92 : decode cX9_takesFor 92 = .ok (.imul, 1) := by decide +kernel
theorem dX9_takesFor_93 : decode cX9_takesFor 93 = .ok (.ireturn, 1) := by decide +kernel
theorem dX9_mendBy_0 : decode cX9_mendBy 0 = .ok (.iload_n 0, 1) := by decide +kernel
theorem dX9_mendBy_1 : decode cX9_mendBy 1 = .ok (.iconst 2, 1) := by decide +kernel
theorem dX9_mendBy_2 : decode cX9_mendBy 2 = .ok (.if_icmp .ge 7, 3) := by decide +kernel
theorem dX9_mendBy_5 : decode cX9_mendBy 5 = .ok (.iconst 0, 1) := by decide +kernel
theorem dX9_mendBy_6 : decode cX9_mendBy 6 = .ok (.goto 25, 3) := by decide +kernel
theorem dX9_mendBy_9 : decode cX9_mendBy 9 = .ok (.iload_n 0, 1) := by decide +kernel
theorem dX9_mendBy_10 : decode cX9_mendBy 10 = .ok (.bipush 10, 2) := by decide +kernel
theorem dX9_mendBy_12 : decode cX9_mendBy 12 = .ok (.if_icmp .ge 7, 3) := by decide +kernel
theorem dX9_mendBy_15 : decode cX9_mendBy 15 = .ok (.iconst 2, 1) := by decide +kernel
theorem dX9_mendBy_16 : decode cX9_mendBy 16 = .ok (.goto 15, 3) := by decide +kernel
theorem dX9_mendBy_19 : decode cX9_mendBy 19 = .ok (.iload_n 0, 1) := by decide +kernel
theorem dX9_mendBy_20 : decode cX9_mendBy 20 = .ok (.bipush 20, 2) := by decide +kernel
theorem dX9_mendBy_22 : decode cX9_mendBy 22 = .ok (.if_icmp .gt 8, 3) := by decide +kernel
theorem dX9_mendBy_25 : decode cX9_mendBy 25 = .ok (.bipush 6, 2) := by decide +kernel
theorem dX9_mendBy_27 : decode cX9_mendBy 27 = .ok (.goto 4, 3) := by decide +kernel
theorem dX9_mendBy_30 : decode cX9_mendBy 30 = .ok (.iconst 4, 1) := by decide +kernel
theorem dX9_mendBy_31 : decode cX9_mendBy 31 = .ok (.ireturn, 1) := by decide +kernel
theorem dX9_first_0 : decode cX9_first 0 = .ok (.iconst (-1), 1) := by decide +kernel
theorem dX9_first_1 : decode cX9_first 1 = .ok (.istore_n 1, 1) := by decide +kernel
theorem dX9_first_2 : decode cX9_first 2 = .ok (.iconst 0, 1) := by decide +kernel
theorem dX9_first_3 : decode cX9_first 3 = .ok (.istore_n 2, 1) := by decide +kernel
theorem dX9_first_4 : decode cX9_first 4 = .ok (.iload_n 2, 1) := by decide +kernel
theorem dX9_first_5 : decode cX9_first 5 = .ok (.aload_n 0, 1) := by decide +kernel
theorem dX9_first_6 : decode cX9_first 6 = .ok (.getfield 19, 3) := by decide +kernel
theorem dX9_first_9 : decode cX9_first 9 = .ok (.bipush 13, 2) := by decide +kernel
theorem dX9_first_11 : decode cX9_first 11 = .ok (.iaload, 1) := by decide +kernel
theorem dX9_first_12 : decode cX9_first 12 = .ok (.if_icmp .ge 61, 3) := by decide +kernel
theorem dX9_first_15 : decode cX9_first 15 = .ok (.aload_n 0, 1) := by decide +kernel
theorem dX9_first_16 : decode cX9_first 16 = .ok (.getfield 161, 3) := by decide +kernel
theorem dX9_first_19 : decode cX9_first 19 = .ok (.iload_n 2, 1) := by decide +kernel
theorem dX9_first_20 : decode cX9_first 20 = .ok (.invokestatic 164, 3) := by decide +kernel
theorem dX9_first_23 : decode cX9_first 23 = .ok (.ifCond .eq 32, 3) := by decide +kernel
theorem dX9_first_26 : decode cX9_first 26 = .ok (.iload_n 1, 1) := by decide +kernel
theorem dX9_first_27 : decode cX9_first 27 = .ok (.ifCond .lt 24, 3) := by decide +kernel
theorem dX9_first_30 : decode cX9_first 30 = .ok (.aload_n 0, 1) := by decide +kernel
theorem dX9_first_31 : decode cX9_first 31 = .ok (.getfield 19, 3) := by decide +kernel
theorem dX9_first_34 : decode cX9_first 34 = .ok (.bipush 38, 2) := by decide +kernel
theorem dX9_first_36 : decode cX9_first 36 = .ok (.iload_n 2, 1) := by decide +kernel
theorem dX9_first_37 : decode cX9_first 37 = .ok (.iadd, 1) := by decide +kernel
theorem dX9_first_38 : decode cX9_first 38 = .ok (.iaload, 1) := by decide +kernel
theorem dX9_first_39 : decode cX9_first 39 = .ok (.aload_n 0, 1) := by decide +kernel
theorem dX9_first_40 : decode cX9_first 40 = .ok (.getfield 19, 3) := by decide +kernel
theorem dX9_first_43 : decode cX9_first 43 = .ok (.bipush 38, 2) := by decide +kernel
theorem dX9_first_45 : decode cX9_first 45 = .ok (.iload_n 1, 1) := by decide +kernel
theorem dX9_first_46 : decode cX9_first 46 = .ok (.iadd, 1) := by decide +kernel
theorem dX9_first_47 : decode cX9_first 47 = .ok (.iaload, 1) := by decide +kernel
theorem dX9_first_48 : decode cX9_first 48 = .ok (.if_icmp .ge 7, 3) := by decide +kernel
theorem dX9_first_51 : decode cX9_first 51 = .ok (.iconst 1, 1) := by decide +kernel
theorem dX9_first_52 : decode cX9_first 52 = .ok (.goto 4, 3) := by decide +kernel
theorem dX9_first_55 : decode cX9_first 55 = .ok (.iconst 0, 1) := by decide +kernel
theorem dX9_first_56 : decode cX9_first 56 = .ok (.istore_n 3, 1) := by decide +kernel
theorem dX9_first_57 : decode cX9_first 57 = .ok (.iload_n 3, 1) := by decide +kernel
theorem dX9_first_58 : decode cX9_first 58 = .ok (.ifCond .eq 7, 3) := by decide +kernel
theorem dX9_first_61 : decode cX9_first 61 = .ok (.iload_n 2, 1) := by decide +kernel
theorem dX9_first_62 : decode cX9_first 62 = .ok (.goto 4, 3) := by decide +kernel
theorem dX9_first_65 : decode cX9_first 65 = .ok (.iload_n 1, 1) := by decide +kernel
theorem dX9_first_66 : decode cX9_first 66 = .ok (.istore_n 1, 1) := by decide +kernel
theorem dX9_first_67 : decode cX9_first 67 = .ok (.iinc 2 1, 3) := by decide +kernel
theorem dX9_first_70 : decode cX9_first 70 = .ok (.goto (-66), 3) := by decide +kernel
theorem dX9_first_73 : decode cX9_first 73 = .ok (.iload_n 1, 1) := by decide +kernel
theorem dX9_first_74 : decode cX9_first 74 = .ok (.ireturn, 1) := by decide +kernel
theorem dX9_walk_0 : decode cX9_walk 0 = .ok (.aload_n 0, 1) := by decide +kernel
theorem dX9_walk_1 : decode cX9_walk 1 = .ok (.invokevirtual 167, 3) := by decide +kernel
theorem dX9_walk_4 : decode cX9_walk 4 = .ok (.istore_n 2, 1) := by decide +kernel
theorem dX9_walk_5 : decode cX9_walk 5 = .ok (.iconst 0, 1) := by decide +kernel
theorem dX9_walk_6 : decode cX9_walk 6 = .ok (.istore_n 3, 1) := by decide +kernel
theorem dX9_walk_7 : decode cX9_walk 7 = .ok (.iload_n 3, 1) := by decide +kernel
theorem dX9_walk_8 : decode cX9_walk 8 = .ok (.aload_n 0, 1) := by decide +kernel
theorem dX9_walk_9 : decode cX9_walk 9 = .ok (.getfield 19, 3) := by decide +kernel
theorem dX9_walk_12 : decode cX9_walk 12 = .ok (.bipush 13, 2) := by decide +kernel
theorem dX9_walk_14 : decode cX9_walk 14 = .ok (.iaload, 1) := by decide +kernel
theorem dX9_walk_15 : decode cX9_walk 15 = .ok (.if_icmp .ge 128, 3) := by decide +kernel
theorem dX9_walk_18 : decode cX9_walk 18 = .ok (.aload_n 0, 1) := by decide +kernel
theorem dX9_walk_19 : decode cX9_walk 19 = .ok (.getfield 161, 3) := by decide +kernel
theorem dX9_walk_22 : decode cX9_walk 22 = .ok (.iload_n 3, 1) := by decide +kernel
theorem dX9_walk_23 : decode cX9_walk 23 = .ok (.invokestatic 164, 3) := by decide +kernel
theorem dX9_walk_26 : decode cX9_walk 26 = .ok (.ifCond .eq 111, 3) := by decide +kernel
theorem dX9_walk_29 : decode cX9_walk 29 = .ok (.aload_n 0, 1) := by decide +kernel
theorem dX9_walk_30 : decode cX9_walk 30 = .ok (.getfield 19, 3) := by decide +kernel
theorem dX9_walk_33 : decode cX9_walk 33 = .ok (.bipush 14, 2) := by decide +kernel
theorem dX9_walk_35 : decode cX9_walk 35 = .ok (.iload_n 3, 1) := by decide +kernel
theorem dX9_walk_36 : decode cX9_walk 36 = .ok (.iadd, 1) := by decide +kernel
theorem dX9_walk_37 : decode cX9_walk 37 = .ok (.iaload, 1) := by decide +kernel
theorem dX9_walk_38 : decode cX9_walk 38 = .ok (.istore 4, 2) := by decide +kernel
theorem dX9_walk_40 : decode cX9_walk 40 = .ok (.aload_n 0, 1) := by decide +kernel
theorem dX9_walk_41 : decode cX9_walk 41 = .ok (.getfield 19, 3) := by decide +kernel
theorem dX9_walk_44 : decode cX9_walk 44 = .ok (.iload_n 1, 1) := by decide +kernel
theorem dX9_walk_45 : decode cX9_walk 45 = .ok (.iaload, 1) := by decide +kernel
theorem dX9_walk_46 : decode cX9_walk 46 = .ok (.istore 5, 2) := by decide +kernel
theorem dX9_walk_48 : decode cX9_walk 48 = .ok (.iload 5, 2) := by decide +kernel
theorem dX9_walk_50 : decode cX9_walk 50 = .ok (.iconst 1, 1) := by decide +kernel
theorem dX9_walk_51 : decode cX9_walk 51 = .ok (.aload_n 0, 1) := by decide +kernel
theorem dX9_walk_52 : decode cX9_walk 52 = .ok (.getfield 19, 3) := by decide +kernel
theorem dX9_walk_55 : decode cX9_walk 55 = .ok (.bipush 26, 2) := by decide +kernel
theorem dX9_walk_57 : decode cX9_walk 57 = .ok (.iload_n 3, 1) := by decide +kernel
theorem dX9_walk_58 : decode cX9_walk 58 = .ok (.iadd, 1) := by decide +kernel
theorem dX9_walk_59 : decode cX9_walk 59 = .ok (.iaload, 1) := by decide +kernel
theorem dX9_walk_60 : decode cX9_walk 60 = .ok (.iconst 2, 1) := by decide +kernel
theorem dX9_walk_61 : decode cX9_walk 61 = .ok (.idiv, 1) := by decide +kernel
theorem dX9_walk_62 : decode cX9_walk 62 = .ok (.iadd, 1) := by decide +kernel
theorem dX9_walk_63 : decode cX9_walk 63 = .ok (.imul, 1) := by decide +kernel
theorem dX9_walk_64 : decode cX9_walk 64 = .ok (.istore 6, 2) := by decide +kernel
theorem dX9_walk_66 : decode cX9_walk 66 = .ok (.iload 4, 2) := by decide +kernel
theorem dX9_walk_68 : decode cX9_walk 68 = .ok (.iconst 5, 1) := by decide +kernel
theorem dX9_walk_69 : decode cX9_walk 69 = .ok (.if_icmp .ne 11, 3) := by decide +kernel
theorem dX9_walk_72 : decode cX9_walk 72 = .ok (.iload 6, 2) := by decide +kernel
theorem dX9_walk_74 : decode cX9_walk 74 = .ok (.iload 5, 2) := by decide +kernel
theorem dX9_walk_76 : decode cX9_walk 76 = .ok (.iadd, 1) := by decide +kernel
theorem dX9_walk_77 : decode cX9_walk 77 = .ok (.goto 26, 3) := by decide +kernel
theorem dX9_walk_80 : decode cX9_walk 80 = .ok (.iload 4, 2) := by decide +kernel
theorem dX9_walk_82 : decode cX9_walk 82 = .ok (.iconst 4, 1) := by decide +kernel
theorem dX9_walk_83 : decode cX9_walk 83 = .ok (.if_icmp .eq 14, 3) := by decide +kernel
theorem dX9_walk_86 : decode cX9_walk 86 = .ok (.iload 4, 2) := by decide +kernel
theorem dX9_walk_88 : decode cX9_walk 88 = .ok (.iconst 3, 1) := by decide +kernel
theorem dX9_walk_89 : decode cX9_walk 89 = .ok (.if_icmp .ne 12, 3) := by decide +kernel
theorem dX9_walk_92 : decode cX9_walk 92 = .ok (.iload_n 3, 1) := by decide +kernel
theorem dX9_walk_93 : decode cX9_walk 93 = .ok (.iload_n 2, 1) := by decide +kernel
theorem dX9_walk_94 : decode cX9_walk 94 = .ok (.if_icmp .ne 7, 3) := by decide +kernel
theorem dX9_walk_97 : decode cX9_walk 97 = .ok (.iconst 0, 1) := by decide +kernel
theorem dX9_walk_98 : decode cX9_walk 98 = .ok (.goto 5, 3) := by decide +kernel
theorem dX9_walk_101 : decode cX9_walk 101 = .ok (.iload 6, 2) := by decide +kernel
theorem dX9_walk_103 : decode cX9_walk 103 = .ok (.istore 6, 2) := by decide +kernel
theorem dX9_walk_105 : decode cX9_walk 105 = .ok (.aload_n 0, 1) := by decide +kernel
theorem dX9_walk_106 : decode cX9_walk 106 = .ok (.getfield 19, 3) := by decide +kernel
theorem dX9_walk_109 : decode cX9_walk 109 = .ok (.bipush 38, 2) := by decide +kernel
theorem dX9_walk_111 : decode cX9_walk 111 = .ok (.iload_n 3, 1) := by decide +kernel
theorem dX9_walk_112 : decode cX9_walk 112 = .ok (.iadd, 1) := by decide +kernel
theorem dX9_walk_113 : decode cX9_walk 113 = .ok (.dup2, 1) := by decide +kernel
theorem dX9_walk_114 : decode cX9_walk 114 = .ok (.iaload, 1) := by decide +kernel
theorem dX9_walk_115 : decode cX9_walk 115 = .ok (.aload_n 0, 1) := by decide +kernel
theorem dX9_walk_116 : decode cX9_walk 116 = .ok (.iload_n 3, 1) := by decide +kernel
theorem dX9_walk_117 : decode cX9_walk 117 = .ok (.iload_n 1, 1) := by decide +kernel
theorem dX9_walk_118 : decode cX9_walk 118 = .ok (.invokevirtual 170, 3) := by decide +kernel
theorem dX9_walk_121 : decode cX9_walk 121 = .ok (.iadd, 1) := by decide +kernel
theorem dX9_walk_122 : decode cX9_walk 122 = .ok (.iastore, 1) := by decide +kernel
theorem dX9_walk_123 : decode cX9_walk 123 = .ok (.aload_n 0, 1) := by decide +kernel
theorem dX9_walk_124 : decode cX9_walk 124 = .ok (.getfield 19, 3) := by decide +kernel
theorem dX9_walk_127 : decode cX9_walk 127 = .ok (.bipush 32, 2) := by decide +kernel
theorem dX9_walk_129 : decode cX9_walk 129 = .ok (.iload_n 3, 1) := by decide +kernel
theorem dX9_walk_130 : decode cX9_walk 130 = .ok (.iadd, 1) := by decide +kernel
theorem dX9_walk_131 : decode cX9_walk 131 = .ok (.dup2, 1) := by decide +kernel
theorem dX9_walk_132 : decode cX9_walk 132 = .ok (.iaload, 1) := by decide +kernel
theorem dX9_walk_133 : decode cX9_walk 133 = .ok (.iload 6, 2) := by decide +kernel
theorem dX9_walk_135 : decode cX9_walk 135 = .ok (.iadd, 1) := by decide +kernel
theorem dX9_walk_136 : decode cX9_walk 136 = .ok (.iastore, 1) := by decide +kernel
theorem dX9_walk_137 : decode cX9_walk 137 = .ok (.iinc 3 1, 3) := by decide +kernel
theorem dX9_walk_140 : decode cX9_walk 140 = .ok (.goto (-133), 3) := by decide +kernel
theorem dX9_walk_143 : decode cX9_walk 143 = .ok (.return_, 1) := by decide +kernel
theorem dX9_leave_0 : decode cX9_leave 0 = .ok (.iconst 0, 1) := by decide +kernel
theorem dX9_leave_1 : decode cX9_leave 1 = .ok (.istore_n 1, 1) := by decide +kernel
theorem dX9_leave_2 : decode cX9_leave 2 = .ok (.iconst 0, 1) := by decide +kernel
theorem dX9_leave_3 : decode cX9_leave 3 = .ok (.istore_n 2, 1) := by decide +kernel
theorem dX9_leave_4 : decode cX9_leave 4 = .ok (.iconst 0, 1) := by decide +kernel
theorem dX9_leave_5 : decode cX9_leave 5 = .ok (.istore_n 3, 1) := by decide +kernel
theorem dX9_leave_6 : decode cX9_leave 6 = .ok (.iconst 0, 1) := by decide +kernel
theorem dX9_leave_7 : decode cX9_leave 7 = .ok (.istore 4, 2) := by decide +kernel
theorem dX9_leave_9 : decode cX9_leave 9 = .ok (.iload 4, 2) := by decide +kernel
theorem dX9_leave_11 : decode cX9_leave 11 = .ok (.aload_n 0, 1) := by decide +kernel
theorem dX9_leave_12 : decode cX9_leave 12 = .ok (.getfield 19, 3) := by decide +kernel
theorem dX9_leave_15 : decode cX9_leave 15 = .ok (.bipush 13, 2) := by decide +kernel
theorem dX9_leave_17 : decode cX9_leave 17 = .ok (.iaload, 1) := by decide +kernel
theorem dX9_leave_18 : decode cX9_leave 18 = .ok (.if_icmp .ge 69, 3) := by decide +kernel
theorem dX9_leave_21 : decode cX9_leave 21 = .ok (.aload_n 0, 1) := by decide +kernel
theorem dX9_leave_22 : decode cX9_leave 22 = .ok (.getfield 161, 3) := by decide +kernel
theorem dX9_leave_25 : decode cX9_leave 25 = .ok (.iload 4, 2) := by decide +kernel
theorem dX9_leave_27 : decode cX9_leave 27 = .ok (.invokestatic 164, 3) := by decide +kernel
theorem dX9_leave_30 : decode cX9_leave 30 = .ok (.ifCond .eq 51, 3) := by decide +kernel
theorem dX9_leave_33 : decode cX9_leave 33 = .ok (.aload_n 0, 1) := by decide +kernel
theorem dX9_leave_34 : decode cX9_leave 34 = .ok (.getfield 19, 3) := by decide +kernel
theorem dX9_leave_37 : decode cX9_leave 37 = .ok (.bipush 38, 2) := by decide +kernel
theorem dX9_leave_39 : decode cX9_leave 39 = .ok (.iload 4, 2) := by decide +kernel
theorem dX9_leave_41 : decode cX9_leave 41 = .ok (.iadd, 1) := by decide +kernel
theorem dX9_leave_42 : decode cX9_leave 42 = .ok (.iaload, 1) := by decide +kernel
theorem dX9_leave_43 : decode cX9_leave 43 = .ok (.istore 5, 2) := by decide +kernel
theorem dX9_leave_45 : decode cX9_leave 45 = .ok (.iload_n 3, 1) := by decide +kernel
theorem dX9_leave_46 : decode cX9_leave 46 = .ok (.ifCond .eq 9, 3) := by decide +kernel
theorem dX9_leave_49 : decode cX9_leave 49 = .ok (.iload 5, 2) := by decide +kernel
theorem dX9_leave_51 : decode cX9_leave 51 = .ok (.iload_n 1, 1) := by decide +kernel
theorem dX9_leave_52 : decode cX9_leave 52 = .ok (.if_icmp .ge 8, 3) := by decide +kernel
theorem dX9_leave_55 : decode cX9_leave 55 = .ok (.iload 5, 2) := by decide +kernel
theorem dX9_leave_57 : decode cX9_leave 57 = .ok (.goto 4, 3) := by decide +kernel
theorem dX9_leave_60 : decode cX9_leave 60 = .ok (.iload_n 1, 1) := by decide +kernel
theorem dX9_leave_61 : decode cX9_leave 61 = .ok (.istore_n 1, 1) := by decide +kernel
theorem dX9_leave_62 : decode cX9_leave 62 = .ok (.iload_n 3, 1) := by decide +kernel
theorem dX9_leave_63 : decode cX9_leave 63 = .ok (.ifCond .eq 9, 3) := by decide +kernel
theorem dX9_leave_66 : decode cX9_leave 66 = .ok (.iload 5, 2) := by decide +kernel
theorem dX9_leave_68 : decode cX9_leave 68 = .ok (.iload_n 2, 1) := by decide +kernel
theorem dX9_leave_69 : decode cX9_leave 69 = .ok (.if_icmp .le 8, 3) := by decide +kernel
theorem dX9_leave_72 : decode cX9_leave 72 = .ok (.iload 5, 2) := by decide +kernel
theorem dX9_leave_74 : decode cX9_leave 74 = .ok (.goto 4, 3) := by decide +kernel
theorem dX9_leave_77 : decode cX9_leave 77 = .ok (.iload_n 2, 1) := by decide +kernel
theorem dX9_leave_78 : decode cX9_leave 78 = .ok (.istore_n 2, 1) := by decide +kernel
theorem dX9_leave_79 : decode cX9_leave 79 = .ok (.iconst 1, 1) := by decide +kernel
theorem dX9_leave_80 : decode cX9_leave 80 = .ok (.istore_n 3, 1) := by decide +kernel
theorem dX9_leave_81 : decode cX9_leave 81 = .ok (.iinc 4 1, 3) := by decide +kernel
theorem dX9_leave_84 : decode cX9_leave 84 = .ok (.goto (-75), 3) := by decide +kernel
theorem dX9_leave_87 : decode cX9_leave 87 = .ok (.iconst 0, 1) := by decide +kernel
theorem dX9_leave_88 : decode cX9_leave 88 = .ok (.istore 4, 2) := by decide +kernel
theorem dX9_leave_90 : decode cX9_leave 90 = .ok (.iload 4, 2) := by decide +kernel
theorem dX9_leave_92 : decode cX9_leave 92 = .ok (.aload_n 0, 1) := by decide +kernel
theorem dX9_leave_93 : decode cX9_leave 93 = .ok (.getfield 19, 3) := by decide +kernel
theorem dX9_leave_96 : decode cX9_leave 96 = .ok (.bipush 13, 2) := by decide +kernel
theorem dX9_leave_98 : decode cX9_leave 98 = .ok (.iaload, 1) := by decide +kernel
theorem dX9_leave_99 : decode cX9_leave 99 = .ok (.if_icmp .ge 185, 3) := by decide +kernel
theorem dX9_leave_102 : decode cX9_leave 102 = .ok (.aload_n 0, 1) := by decide +kernel
theorem dX9_leave_103 : decode cX9_leave 103 = .ok (.getfield 161, 3) := by decide +kernel
theorem dX9_leave_106 : decode cX9_leave 106 = .ok (.iload 4, 2) := by decide +kernel
theorem dX9_leave_108 : decode cX9_leave 108 = .ok (.invokestatic 164, 3) := by decide +kernel
theorem dX9_leave_111 : decode cX9_leave 111 = .ok (.ifCond .eq 167, 3) := by decide +kernel
theorem dX9_leave_114 : decode cX9_leave 114 = .ok (.aload_n 0, 1) := by decide +kernel
theorem dX9_leave_115 : decode cX9_leave 115 = .ok (.getfield 19, 3) := by decide +kernel
theorem dX9_leave_118 : decode cX9_leave 118 = .ok (.bipush 38, 2) := by decide +kernel
theorem dX9_leave_120 : decode cX9_leave 120 = .ok (.iload 4, 2) := by decide +kernel
theorem dX9_leave_122 : decode cX9_leave 122 = .ok (.iadd, 1) := by decide +kernel
theorem dX9_leave_123 : decode cX9_leave 123 = .ok (.iaload, 1) := by decide +kernel
theorem dX9_leave_124 : decode cX9_leave 124 = .ok (.istore 5, 2) := by decide +kernel
theorem dX9_leave_126 : decode cX9_leave 126 = .ok (.aload_n 0, 1) := by decide +kernel
theorem dX9_leave_127 : decode cX9_leave 127 = .ok (.getfield 19, 3) := by decide +kernel
theorem dX9_leave_130 : decode cX9_leave 130 = .ok (.bipush 10, 2) := by decide +kernel
theorem dX9_leave_132 : decode cX9_leave 132 = .ok (.iaload, 1) := by decide +kernel
theorem dX9_leave_133 : decode cX9_leave 133 = .ok (.ifCond .ne 7, 3) := by decide +kernel
theorem dX9_leave_136 : decode cX9_leave 136 = .ok (.iload_n 2, 1) := by decide +kernel
theorem dX9_leave_137 : decode cX9_leave 137 = .ok (.goto 51, 3) := by decide +kernel
theorem dX9_leave_140 : decode cX9_leave 140 = .ok (.aload_n 0, 1) := by decide +kernel
theorem dX9_leave_141 : decode cX9_leave 141 = .ok (.getfield 19, 3) := by decide +kernel
theorem dX9_leave_144 : decode cX9_leave 144 = .ok (.bipush 10, 2) := by decide +kernel
theorem dX9_leave_146 : decode cX9_leave 146 = .ok (.iaload, 1) := by decide +kernel
theorem dX9_leave_147 : decode cX9_leave 147 = .ok (.iconst 1, 1) := by decide +kernel
theorem dX9_leave_148 : decode cX9_leave 148 = .ok (.if_icmp .ne 15, 3) := by decide +kernel
theorem dX9_leave_151 : decode cX9_leave 151 = .ok (.iload_n 2, 1) := by decide +kernel
theorem dX9_leave_152 : decode cX9_leave 152 = .ok (.aload_n 0, 1) := by decide +kernel
theorem dX9_leave_153 : decode cX9_leave 153 = .ok (.getfield 19, 3) := by decide +kernel
theorem dX9_leave_156 : decode cX9_leave 156 = .ok (.bipush 11, 2) := by decide +kernel
theorem dX9_leave_158 : decode cX9_leave 158 = .ok (.iaload, 1) := by decide +kernel
theorem dX9_leave_159 : decode cX9_leave 159 = .ok (.iadd, 1) := by decide +kernel
theorem dX9_leave_160 : decode cX9_leave 160 = .ok (.goto 28, 3) := by decide +kernel
theorem dX9_leave_163 : decode cX9_leave 163 = .ok (.aload_n 0, 1) := by decide +kernel
theorem dX9_leave_164 : decode cX9_leave 164 = .ok (.getfield 19, 3) := by decide +kernel
theorem dX9_leave_167 : decode cX9_leave 167 = .ok (.bipush 10, 2) := by decide +kernel
theorem dX9_leave_169 : decode cX9_leave 169 = .ok (.iaload, 1) := by decide +kernel
theorem dX9_leave_170 : decode cX9_leave 170 = .ok (.iconst 2, 1) := by decide +kernel
theorem dX9_leave_171 : decode cX9_leave 171 = .ok (.if_icmp .ne 15, 3) := by decide +kernel
theorem dX9_leave_174 : decode cX9_leave 174 = .ok (.iload_n 1, 1) := by decide +kernel
theorem dX9_leave_175 : decode cX9_leave 175 = .ok (.aload_n 0, 1) := by decide +kernel
theorem dX9_leave_176 : decode cX9_leave 176 = .ok (.getfield 19, 3) := by decide +kernel
theorem dX9_leave_179 : decode cX9_leave 179 = .ok (.bipush 11, 2) := by decide +kernel
theorem dX9_leave_181 : decode cX9_leave 181 = .ok (.iaload, 1) := by decide +kernel
theorem dX9_leave_182 : decode cX9_leave 182 = .ok (.iadd, 1) := by decide +kernel
theorem dX9_leave_183 : decode cX9_leave 183 = .ok (.goto 5, 3) := by decide +kernel
theorem dX9_leave_186 : decode cX9_leave 186 = .ok (.iload 5, 2) := by decide +kernel
theorem dX9_leave_188 : decode cX9_leave 188 = .ok (.istore 6, 2) := by decide +kernel
theorem dX9_leave_190 : decode cX9_leave 190 = .ok (.iload 6, 2) := by decide +kernel
theorem dX9_leave_192 : decode cX9_leave 192 = .ok (.iload 5, 2) := by decide +kernel
theorem dX9_leave_194 : decode cX9_leave 194 = .ok (.if_icmp .ge 8, 3) := by decide +kernel
theorem dX9_leave_197 : decode cX9_leave 197 = .ok (.iload 5, 2) := by decide +kernel
theorem dX9_leave_199 : decode cX9_leave 199 = .ok (.goto 5, 3) := by decide +kernel
theorem dX9_leave_202 : decode cX9_leave 202 = .ok (.iload 6, 2) := by decide +kernel
theorem dX9_leave_204 : decode cX9_leave 204 = .ok (.istore 6, 2) := by decide +kernel
theorem dX9_leave_206 : decode cX9_leave 206 = .ok (.aload_n 0, 1) := by decide +kernel
theorem dX9_leave_207 : decode cX9_leave 207 = .ok (.getfield 19, 3) := by decide +kernel
theorem dX9_leave_210 : decode cX9_leave 210 = .ok (.bipush 32, 2) := by decide +kernel
theorem dX9_leave_212 : decode cX9_leave 212 = .ok (.iload 4, 2) := by decide +kernel
theorem dX9_leave_214 : decode cX9_leave 214 = .ok (.iadd, 1) := by decide +kernel
theorem dX9_leave_215 : decode cX9_leave 215 = .ok (.iaload, 1) := by decide +kernel
theorem dX9_leave_216 : decode cX9_leave 216 = .ok (.iload 6, 2) := by decide +kernel
theorem dX9_leave_218 : decode cX9_leave 218 = .ok (.iload 5, 2) := by decide +kernel
theorem dX9_leave_220 : decode cX9_leave 220 = .ok (.isub, 1) := by decide +kernel
theorem dX9_leave_221 : decode cX9_leave 221 = .ok (.invokestatic 173, 3) := by decide +kernel
theorem dX9_leave_224 : decode cX9_leave 224 = .ok (.isub, 1) := by decide +kernel
theorem dX9_leave_225 : decode cX9_leave 225 = .ok (.istore 7, 2) := by decide +kernel
theorem dX9_leave_227 : decode cX9_leave 227 = .ok (.aload_n 0, 1) := by decide +kernel
theorem dX9_leave_228 : decode cX9_leave 228 = .ok (.getfield 19, 3) := by decide +kernel
theorem dX9_leave_231 : decode cX9_leave 231 = .ok (.bipush 32, 2) := by decide +kernel
theorem dX9_leave_233 : decode cX9_leave 233 = .ok (.iload 4, 2) := by decide +kernel
theorem dX9_leave_235 : decode cX9_leave 235 = .ok (.iadd, 1) := by decide +kernel
theorem dX9_leave_236 : decode cX9_leave 236 = .ok (.iload 7, 2) := by decide +kernel
theorem dX9_leave_238 : decode cX9_leave 238 = .ok (.ifCond .ge 7, 3) := by decide +kernel
theorem dX9_leave_241 : decode cX9_leave 241 = .ok (.iconst 0, 1) := by decide +kernel
theorem dX9_leave_242 : decode cX9_leave 242 = .ok (.goto 5, 3) := by decide +kernel
theorem dX9_leave_245 : decode cX9_leave 245 = .ok (.iload 7, 2) := by decide +kernel
theorem dX9_leave_247 : decode cX9_leave 247 = .ok (.iastore, 1) := by decide +kernel
theorem dX9_leave_248 : decode cX9_leave 248 = .ok (.aload_n 0, 1) := by decide +kernel
theorem dX9_leave_249 : decode cX9_leave 249 = .ok (.getfield 19, 3) := by decide +kernel
theorem dX9_leave_252 : decode cX9_leave 252 = .ok (.bipush 44, 2) := by decide +kernel
theorem dX9_leave_254 : decode cX9_leave 254 = .ok (.iload 4, 2) := by decide +kernel
theorem dX9_leave_256 : decode cX9_leave 256 = .ok (.iadd, 1) := by decide +kernel
theorem dX9_leave_257 : decode cX9_leave 257 = .ok (.dup2, 1) := by decide +kernel
theorem dX9_leave_258 : decode cX9_leave 258 = .ok (.iaload, 1) := by decide +kernel
theorem dX9_leave_259 : decode cX9_leave 259 = .ok (.iload 6, 2) := by decide +kernel
theorem dX9_leave_261 : decode cX9_leave 261 = .ok (.iload 5, 2) := by decide +kernel
theorem dX9_leave_263 : decode cX9_leave 263 = .ok (.isub, 1) := by decide +kernel
theorem dX9_leave_264 : decode cX9_leave 264 = .ok (.iadd, 1) := by decide +kernel
theorem dX9_leave_265 : decode cX9_leave 265 = .ok (.iastore, 1) := by decide +kernel
theorem dX9_leave_266 : decode cX9_leave 266 = .ok (.aload_n 0, 1) := by decide +kernel
theorem dX9_leave_267 : decode cX9_leave 267 = .ok (.getfield 19, 3) := by decide +kernel
theorem dX9_leave_270 : decode cX9_leave 270 = .ok (.bipush 38, 2) := by decide +kernel
theorem dX9_leave_272 : decode cX9_leave 272 = .ok (.iload 4, 2) := by decide +kernel
theorem dX9_leave_274 : decode cX9_leave 274 = .ok (.iadd, 1) := by decide +kernel
theorem dX9_leave_275 : decode cX9_leave 275 = .ok (.iload 6, 2) := by decide +kernel
theorem dX9_leave_277 : decode cX9_leave 277 = .ok (.iastore, 1) := by decide +kernel
theorem dX9_leave_278 : decode cX9_leave 278 = .ok (.iinc 4 1, 3) := by decide +kernel
theorem dX9_leave_281 : decode cX9_leave 281 = .ok (.goto (-191), 3) := by decide +kernel
theorem dX9_leave_284 : decode cX9_leave 284 = .ok (.return_, 1) := by decide +kernel
theorem dX9_goOn_0 : decode cX9_goOn 0 = .ok (.aload_n 0, 1) := by decide +kernel
theorem dX9_goOn_1 : decode cX9_goOn 1 = .ok (.aload_n 0, 1) := by decide +kernel
theorem dX9_goOn_2 : decode cX9_goOn 2 = .ok (.getfield 19, 3) := by decide +kernel
theorem dX9_goOn_5 : decode cX9_goOn 5 = .ok (.bipush 9, 2) := by decide +kernel
theorem dX9_goOn_7 : decode cX9_goOn 7 = .ok (.iaload, 1) := by decide +kernel
theorem dX9_goOn_8 : decode cX9_goOn 8 = .ok (.invokevirtual 176, 3) := by decide +kernel
theorem dX9_goOn_11 : decode cX9_goOn 11 = .ok (.aload_n 0, 1) := by decide +kernel
theorem dX9_goOn_12 : decode cX9_goOn 12 = .ok (.getfield 19, 3) := by decide +kernel
theorem dX9_goOn_15 : decode cX9_goOn 15 = .ok (.bipush 9, 2) := by decide +kernel
theorem dX9_goOn_17 : decode cX9_goOn 17 = .ok (.dup2, 1) := by decide +kernel
theorem dX9_goOn_18 : decode cX9_goOn 18 = .ok (.iaload, 1) := by decide +kernel
theorem dX9_goOn_19 : decode cX9_goOn 19 = .ok (.iconst 1, 1) := by decide +kernel
theorem dX9_goOn_20 : decode cX9_goOn 20 = .ok (.iadd, 1) := by decide +kernel
theorem dX9_goOn_21 : decode cX9_goOn 21 = .ok (.iastore, 1) := by decide +kernel
theorem dX9_goOn_22 : decode cX9_goOn 22 = .ok (.aload_n 0, 1) := by decide +kernel
theorem dX9_goOn_23 : decode cX9_goOn 23 = .ok (.getfield 19, 3) := by decide +kernel
theorem dX9_goOn_26 : decode cX9_goOn 26 = .ok (.bipush 9, 2) := by decide +kernel
theorem dX9_goOn_28 : decode cX9_goOn 28 = .ok (.iaload, 1) := by decide +kernel
theorem dX9_goOn_29 : decode cX9_goOn 29 = .ok (.aload_n 0, 1) := by decide +kernel
theorem dX9_goOn_30 : decode cX9_goOn 30 = .ok (.getfield 19, 3) := by decide +kernel
theorem dX9_goOn_33 : decode cX9_goOn 33 = .ok (.bipush 8, 2) := by decide +kernel
theorem dX9_goOn_35 : decode cX9_goOn 35 = .ok (.iaload, 1) := by decide +kernel
theorem dX9_goOn_36 : decode cX9_goOn 36 = .ok (.if_icmp .ge 7, 3) := by decide +kernel
theorem dX9_goOn_39 : decode cX9_goOn 39 = .ok (.aload_n 0, 1) := by decide +kernel
theorem dX9_goOn_40 : decode cX9_goOn 40 = .ok (.invokevirtual 180, 3) := by decide +kernel
theorem dX9_goOn_43 : decode cX9_goOn 43 = .ok (.return_, 1) := by decide +kernel
theorem dX9_all_0 : decode cX9_all 0 = .ok (.iconst 1, 1) := by decide +kernel
theorem dX9_all_1 : decode cX9_all 1 = .ok (.aload_n 0, 1) := by decide +kernel
theorem dX9_all_2 : decode cX9_all 2 = .ok (.getfield 19, 3) := by decide +kernel
theorem dX9_all_5 : decode cX9_all 5 = .ok (.bipush 13, 2) := by decide +kernel
theorem dX9_all_7 : decode cX9_all 7 = .ok (.iaload, 1) := by decide +kernel
theorem dX9_all_8 : decode cX9_all 8 = .ok (.ishl, 1) := by decide +kernel
theorem dX9_all_9 : decode cX9_all 9 = .ok (.iconst 1, 1) := by decide +kernel
theorem dX9_all_10 : decode cX9_all 10 = .ok (.isub, 1) := by decide +kernel
theorem dX9_all_11 : decode cX9_all 11 = .ok (.ireturn, 1) := by decide +kernel
theorem dX9_note_0 : decode cX9_note 0 = .ok (.aload_n 0, 1) := by decide +kernel
theorem dX9_note_1 : decode cX9_note 1 = .ok (.getfield 158, 3) := by decide +kernel
theorem dX9_note_4 : decode cX9_note 4 = .ok (.bipush 24, 2) := by decide +kernel
theorem dX9_note_6 : decode cX9_note 6 = .ok (.if_icmp .ne 43, 3) := by decide +kernel
theorem dX9_note_9 : decode cX9_note 9 = .ok (.iconst 0, 1) := by decide +kernel
theorem dX9_note_10 : decode cX9_note 10 = .ok (.istore_n 1, 1) := by decide +kernel
theorem dX9_note_11 : decode cX9_note 11 = .ok (.iload_n 1, 1) := by decide +kernel
theorem dX9_note_12 : decode cX9_note 12 = .ok (.sipush 1288, 3) := by decide +kernel
theorem dX9_note_15 : decode cX9_note 15 = .ok (.if_icmp .ge 24, 3) := by decide +kernel
theorem dX9_note_18 : decode cX9_note 18 = .ok (.aload_n 0, 1) := by decide +kernel
theorem dX9_note_19 : decode cX9_note 19 = .ok (.getfield 31, 3) := by decide +kernel
theorem dX9_note_22 : decode cX9_note 22 = .ok (.iload_n 1, 1) := by decide +kernel
theorem dX9_note_23 : decode cX9_note 23 = .ok (.aload_n 0, 1) := by decide +kernel
theorem dX9_note_24 : decode cX9_note 24 = .ok (.getfield 31, 3) := by decide +kernel
theorem dX9_note_27 : decode cX9_note 27 = .ok (.iload_n 1, 1) := by decide +kernel
theorem dX9_note_28 : decode cX9_note 28 = .ok (.bipush 56, 2) := by decide +kernel
theorem dX9_note_30 : decode cX9_note 30 = .ok (.iadd, 1) := by decide +kernel
theorem dX9_note_31 : decode cX9_note 31 = .ok (.iaload, 1) := by decide +kernel
theorem dX9_note_32 : decode cX9_note 32 = .ok (.iastore, 1) := by decide +kernel
theorem dX9_note_33 : decode cX9_note 33 = .ok (.iinc 1 1, 3) := by decide +kernel
theorem dX9_note_36 : decode cX9_note 36 = .ok (.goto (-25), 3) := by decide +kernel
theorem dX9_note_39 : decode cX9_note 39 = .ok (.aload_n 0, 1) := by decide +kernel
theorem dX9_note_40 : decode cX9_note 40 = .ok (.dup, 1) := by decide +kernel
theorem dX9_note_41 : decode cX9_note 41 = .ok (.getfield 158, 3) := by decide +kernel
theorem dX9_note_44 : decode cX9_note 44 = .ok (.iconst 1, 1) := by decide +kernel
theorem dX9_note_45 : decode cX9_note 45 = .ok (.isub, 1) := by decide +kernel
theorem dX9_note_46 : decode cX9_note 46 = .ok (.putfield 158, 3) := by decide +kernel
theorem dX9_note_49 : decode cX9_note 49 = .ok (.iconst 0, 1) := by decide +kernel
theorem dX9_note_50 : decode cX9_note 50 = .ok (.istore_n 1, 1) := by decide +kernel
theorem dX9_note_51 : decode cX9_note 51 = .ok (.iload_n 1, 1) := by decide +kernel
theorem dX9_note_52 : decode cX9_note 52 = .ok (.bipush 56, 2) := by decide +kernel
theorem dX9_note_54 : decode cX9_note 54 = .ok (.if_icmp .ge 29, 3) := by decide +kernel
theorem dX9_note_57 : decode cX9_note 57 = .ok (.aload_n 0, 1) := by decide +kernel
theorem dX9_note_58 : decode cX9_note 58 = .ok (.getfield 31, 3) := by decide +kernel
theorem dX9_note_61 : decode cX9_note 61 = .ok (.bipush 56, 2) := by decide +kernel
theorem dX9_note_63 : decode cX9_note 63 = .ok (.aload_n 0, 1) := by decide +kernel
theorem dX9_note_64 : decode cX9_note 64 = .ok (.getfield 158, 3) := by decide +kernel
theorem dX9_note_67 : decode cX9_note 67 = .ok (.imul, 1) := by decide +kernel
theorem dX9_note_68 : decode cX9_note 68 = .ok (.iload_n 1, 1) := by decide +kernel
theorem dX9_note_69 : decode cX9_note 69 = .ok (.iadd, 1) := by decide +kernel
theorem dX9_note_70 : decode cX9_note 70 = .ok (.aload_n 0, 1) := by decide +kernel
theorem dX9_note_71 : decode cX9_note 71 = .ok (.getfield 19, 3) := by decide +kernel
theorem dX9_note_74 : decode cX9_note 74 = .ok (.iload_n 1, 1) := by decide +kernel
theorem dX9_note_75 : decode cX9_note 75 = .ok (.iaload, 1) := by decide +kernel
theorem dX9_note_76 : decode cX9_note 76 = .ok (.iastore, 1) := by decide +kernel
theorem dX9_note_77 : decode cX9_note 77 = .ok (.iinc 1 1, 3) := by decide +kernel
theorem dX9_note_80 : decode cX9_note 80 = .ok (.goto (-29), 3) := by decide +kernel
theorem dX9_note_83 : decode cX9_note 83 = .ok (.aload_n 0, 1) := by decide +kernel
theorem dX9_note_84 : decode cX9_note 84 = .ok (.dup, 1) := by decide +kernel
theorem dX9_note_85 : decode cX9_note 85 = .ok (.getfield 158, 3) := by decide +kernel
theorem dX9_note_88 : decode cX9_note 88 = .ok (.iconst 1, 1) := by decide +kernel
theorem dX9_note_89 : decode cX9_note 89 = .ok (.iadd, 1) := by decide +kernel
theorem dX9_note_90 : decode cX9_note 90 = .ok (.putfield 158, 3) := by decide +kernel
theorem dX9_note_93 : decode cX9_note 93 = .ok (.return_, 1) := by decide +kernel
theorem dX9_go_0 : decode cX9_go 0 = .ok (.aload_n 0, 1) := by decide +kernel
theorem dX9_go_1 : decode cX9_go 1 = .ok (.getfield 154, 3) := by decide +kernel
theorem dX9_go_4 : decode cX9_go 4 = .ok (.ifCond .eq 20, 3) := by decide +kernel
theorem dX9_go_7 : decode cX9_go 7 = .ok (.aload_n 0, 1) := by decide +kernel
theorem dX9_go_8 : decode cX9_go 8 = .ok (.getfield 19, 3) := by decide +kernel
theorem dX9_go_11 : decode cX9_go 11 = .ok (.bipush 9, 2) := by decide +kernel
theorem dX9_go_13 : decode cX9_go 13 = .ok (.iaload, 1) := by decide +kernel
theorem dX9_go_14 : decode cX9_go 14 = .ok (.aload_n 0, 1) := by decide +kernel
theorem dX9_go_15 : decode cX9_go 15 = .ok (.getfield 19, 3) := by decide +kernel
theorem dX9_go_18 : decode cX9_go 18 = .ok (.bipush 8, 2) := by decide +kernel
theorem dX9_go_20 : decode cX9_go 20 = .ok (.iaload, 1) := by decide +kernel
theorem dX9_go_21 : decode cX9_go 21 = .ok (.if_icmp .ne 6, 3) := by decide +kernel
theorem dX9_go_24 : decode cX9_go 24 = .ok (.ldc 183, 2) := by decide +kernel
theorem dX9_go_26 : decode cX9_go 26 = .ok (.ireturn, 1) := by decide +kernel
theorem dX9_go_27 : decode cX9_go 27 = .ok (.aload_n 0, 1) := by decide +kernel
theorem dX9_go_28 : decode cX9_go 28 = .ok (.invokevirtual 184, 3) := by decide +kernel
theorem dX9_go_31 : decode cX9_go 31 = .ok (.aload_n 0, 1) := by decide +kernel
theorem dX9_go_32 : decode cX9_go 32 = .ok (.aload_n 0, 1) := by decide +kernel
theorem dX9_go_33 : decode cX9_go 33 = .ok (.invokevirtual 187, 3) := by decide +kernel
theorem dX9_go_36 : decode cX9_go 36 = .ok (.putfield 161, 3) := by decide +kernel
theorem dX9_go_39 : decode cX9_go 39 = .ok (.aload_n 0, 1) := by decide +kernel
theorem dX9_go_40 : decode cX9_go 40 = .ok (.invokevirtual 190, 3) := by decide +kernel
theorem dX9_go_43 : decode cX9_go 43 = .ok (.aload_n 0, 1) := by decide +kernel
theorem dX9_go_44 : decode cX9_go 44 = .ok (.getfield 19, 3) := by decide +kernel
theorem dX9_go_47 : decode cX9_go 47 = .ok (.bipush 9, 2) := by decide +kernel
theorem dX9_go_49 : decode cX9_go 49 = .ok (.iaload, 1) := by decide +kernel
theorem dX9_go_50 : decode cX9_go 50 = .ok (.ireturn, 1) := by decide +kernel
theorem dX9_rule_0 : decode cX9_rule 0 = .ok (.aload_n 0, 1) := by decide +kernel
theorem dX9_rule_1 : decode cX9_rule 1 = .ok (.getfield 154, 3) := by decide +kernel
theorem dX9_rule_4 : decode cX9_rule 4 = .ok (.ifCond .ne 6, 3) := by decide +kernel
theorem dX9_rule_7 : decode cX9_rule 7 = .ok (.ldc 183, 2) := by decide +kernel
theorem dX9_rule_9 : decode cX9_rule 9 = .ok (.ireturn, 1) := by decide +kernel
theorem dX9_rule_10 : decode cX9_rule 10 = .ok (.iload_n 1, 1) := by decide +kernel
theorem dX9_rule_11 : decode cX9_rule 11 = .ok (.i2l, 1) := by decide +kernel
theorem dX9_rule_12 : decode cX9_rule 12 = .ok (.lconst 0, 1) := by decide +kernel
theorem dX9_rule_13 : decode cX9_rule 13 = .ok (.ldc2_w 193, 3) := by decide +kernel
theorem dX9_rule_16 : decode cX9_rule 16 = .ok (.invokestatic 66, 3) := by decide +kernel
theorem dX9_rule_19 : decode cX9_rule 19 = .ok (.ifCond .eq 15, 3) := by decide +kernel
theorem dX9_rule_22 : decode cX9_rule 22 = .ok (.iload_n 2, 1) := by decide +kernel
theorem dX9_rule_23 : decode cX9_rule 23 = .ok (.i2l, 1) := by decide +kernel
theorem dX9_rule_24 : decode cX9_rule 24 = .ok (.lconst 0, 1) := by decide +kernel
theorem dX9_rule_25 : decode cX9_rule 25 = .ok (.ldc2_w 195, 3) := by decide +kernel
theorem dX9_rule_28 : decode cX9_rule 28 = .ok (.invokestatic 66, 3) := by decide +kernel
theorem dX9_rule_31 : decode cX9_rule 31 = .ok (.ifCond .ne 6, 3) := by decide +kernel
theorem dX9_rule_34 : decode cX9_rule 34 = .ok (.ldc 76, 2) := by decide +kernel
theorem dX9_rule_36 : decode cX9_rule 36 = .ok (.ireturn, 1) := by decide +kernel
theorem dX9_rule_37 : decode cX9_rule 37 = .ok (.aload_n 0, 1) := by decide +kernel
theorem dX9_rule_38 : decode cX9_rule 38 = .ok (.invokevirtual 184, 3) := by decide +kernel
theorem dX9_rule_41 : decode cX9_rule 41 = .ok (.bipush 31, 2) := by decide +kernel
theorem dX9_rule_43 : decode cX9_rule 43 = .ok (.aload_n 0, 1) := by decide +kernel
theorem dX9_rule_44 : decode cX9_rule 44 = .ok (.getfield 19, 3) := by decide +kernel
theorem dX9_rule_47 : decode cX9_rule 47 = .ok (.bipush 10, 2) := by decide +kernel
theorem dX9_rule_49 : decode cX9_rule 49 = .ok (.iaload, 1) := by decide +kernel
theorem dX9_rule_50 : decode cX9_rule 50 = .ok (.imul, 1) := by decide +kernel
theorem dX9_rule_51 : decode cX9_rule 51 = .ok (.aload_n 0, 1) := by decide +kernel
theorem dX9_rule_52 : decode cX9_rule 52 = .ok (.getfield 19, 3) := by decide +kernel
theorem dX9_rule_55 : decode cX9_rule 55 = .ok (.bipush 11, 2) := by decide +kernel
theorem dX9_rule_57 : decode cX9_rule 57 = .ok (.iaload, 1) := by decide +kernel
theorem dX9_rule_58 : decode cX9_rule 58 = .ok (.iadd, 1) := by decide +kernel
theorem dX9_rule_59 : decode cX9_rule 59 = .ok (.istore_n 3, 1) := by decide +kernel
theorem dX9_rule_60 : decode cX9_rule 60 = .ok (.aload_n 0, 1) := by decide +kernel
theorem dX9_rule_61 : decode cX9_rule 61 = .ok (.getfield 19, 3) := by decide +kernel
theorem dX9_rule_64 : decode cX9_rule 64 = .ok (.bipush 10, 2) := by decide +kernel
theorem dX9_rule_66 : decode cX9_rule 66 = .ok (.iload_n 1, 1) := by decide +kernel
theorem dX9_rule_67 : decode cX9_rule 67 = .ok (.iastore, 1) := by decide +kernel
theorem dX9_rule_68 : decode cX9_rule 68 = .ok (.aload_n 0, 1) := by decide +kernel
theorem dX9_rule_69 : decode cX9_rule 69 = .ok (.getfield 19, 3) := by decide +kernel
theorem dX9_rule_72 : decode cX9_rule 72 = .ok (.bipush 11, 2) := by decide +kernel
theorem dX9_rule_74 : decode cX9_rule 74 = .ok (.iload_n 2, 1) := by decide +kernel
theorem dX9_rule_75 : decode cX9_rule 75 = .ok (.iastore, 1) := by decide +kernel
theorem dX9_rule_76 : decode cX9_rule 76 = .ok (.iload_n 3, 1) := by decide +kernel
theorem dX9_rule_77 : decode cX9_rule 77 = .ok (.ireturn, 1) := by decide +kernel
theorem dX9_isWalker_0 : decode cX9_isWalker 0 = .ok (.iload_n 1, 1) := by decide +kernel
theorem dX9_isWalker_1 : decode cX9_isWalker 1 = .ok (.i2l, 1) := by decide +kernel
theorem dX9_isWalker_2 : decode cX9_isWalker 2 = .ok (.lconst 0, 1) := by decide +kernel
theorem dX9_isWalker_3 : decode cX9_isWalker 3 = .ok (.aload_n 0, 1) := by decide +kernel
theorem dX9_isWalker_4 : decode cX9_isWalker 4 = .ok (.getfield 19, 3) := by decide +kernel
theorem dX9_isWalker_7 : decode cX9_isWalker 7 = .ok (.bipush 13, 2) := by decide +kernel
theorem dX9_isWalker_9 : decode cX9_isWalker 9 = .ok (.iaload, 1) := by decide +kernel
theorem dX9_isWalker_10 : decode cX9_isWalker 10 = .ok (.iconst 1, 1) := by decide +kernel
theorem dX9_isWalker_11 : decode cX9_isWalker 11 = .ok (.isub, 1) := by decide +kernel
theorem dX9_isWalker_12 : decode cX9_isWalker 12 = .ok (.i2l, 1) := by decide +kernel
theorem dX9_isWalker_13 : decode cX9_isWalker 13 = .ok (.invokestatic 66, 3) := by decide +kernel
theorem dX9_isWalker_16 : decode cX9_isWalker 16 = .ok (.ireturn, 1) := by decide +kernel
theorem dX9_give_0 : decode cX9_give 0 = .ok (.aload_n 0, 1) := by decide +kernel
theorem dX9_give_1 : decode cX9_give 1 = .ok (.iload_n 1, 1) := by decide +kernel
theorem dX9_give_2 : decode cX9_give 2 = .ok (.invokevirtual 197, 3) := by decide +kernel
theorem dX9_give_5 : decode cX9_give 5 = .ok (.ifCond .eq 16, 3) := by decide +kernel
theorem dX9_give_8 : decode cX9_give 8 = .ok (.aload_n 0, 1) := by decide +kernel
theorem dX9_give_9 : decode cX9_give 9 = .ok (.iload_n 2, 1) := by decide +kernel
theorem dX9_give_10 : decode cX9_give 10 = .ok (.invokevirtual 197, 3) := by decide +kernel
theorem dX9_give_13 : decode cX9_give 13 = .ok (.ifCond .eq 8, 3) := by decide +kernel
theorem dX9_give_16 : decode cX9_give 16 = .ok (.iload_n 1, 1) := by decide +kernel
theorem dX9_give_17 : decode cX9_give 17 = .ok (.iload_n 2, 1) := by decide +kernel
theorem dX9_give_18 : decode cX9_give 18 = .ok (.if_icmp .ne 6, 3) := by decide +kernel
theorem dX9_give_21 : decode cX9_give 21 = .ok (.ldc 76, 2) := by decide +kernel
theorem dX9_give_23 : decode cX9_give 23 = .ok (.ireturn, 1) := by decide +kernel
theorem dX9_give_24 : decode cX9_give 24 = .ok (.aload_n 0, 1) := by decide +kernel
theorem dX9_give_25 : decode cX9_give 25 = .ok (.getfield 19, 3) := by decide +kernel
theorem dX9_give_28 : decode cX9_give 28 = .ok (.bipush 26, 2) := by decide +kernel
theorem dX9_give_30 : decode cX9_give 30 = .ok (.iload_n 1, 1) := by decide +kernel
theorem dX9_give_31 : decode cX9_give 31 = .ok (.iadd, 1) := by decide +kernel
theorem dX9_give_32 : decode cX9_give 32 = .ok (.iaload, 1) := by decide +kernel
theorem dX9_give_33 : decode cX9_give 33 = .ok (.aload_n 0, 1) := by decide +kernel
theorem dX9_give_34 : decode cX9_give 34 = .ok (.getfield 19, 3) := by decide +kernel
theorem dX9_give_37 : decode cX9_give 37 = .ok (.bipush 26, 2) := by decide +kernel
theorem dX9_give_39 : decode cX9_give 39 = .ok (.iload_n 2, 1) := by decide +kernel
theorem dX9_give_40 : decode cX9_give 40 = .ok (.iadd, 1) := by decide +kernel
theorem dX9_give_41 : decode cX9_give 41 = .ok (.iaload, 1) := by decide +kernel
theorem dX9_give_42 : decode cX9_give 42 = .ok (.iadd, 1) := by decide +kernel
theorem dX9_give_43 : decode cX9_give 43 = .ok (.istore_n 3, 1) := by decide +kernel
theorem dX9_give_44 : decode cX9_give 44 = .ok (.iload_n 3, 1) := by decide +kernel
theorem dX9_give_45 : decode cX9_give 45 = .ok (.bipush 20, 2) := by decide +kernel
theorem dX9_give_47 : decode cX9_give 47 = .ok (.if_icmp .le 6, 3) := by decide +kernel
theorem dX9_give_50 : decode cX9_give 50 = .ok (.ldc 93, 2) := by decide +kernel
theorem dX9_give_52 : decode cX9_give 52 = .ok (.ireturn, 1) := by decide +kernel
theorem dX9_give_53 : decode cX9_give 53 = .ok (.aload_n 0, 1) := by decide +kernel
theorem dX9_give_54 : decode cX9_give 54 = .ok (.invokevirtual 184, 3) := by decide +kernel
theorem dX9_give_57 : decode cX9_give 57 = .ok (.aload_n 0, 1) := by decide +kernel
theorem dX9_give_58 : decode cX9_give 58 = .ok (.getfield 19, 3) := by decide +kernel
theorem dX9_give_61 : decode cX9_give 61 = .ok (.bipush 26, 2) := by decide +kernel
theorem dX9_give_63 : decode cX9_give 63 = .ok (.iload_n 1, 1) := by decide +kernel
theorem dX9_give_64 : decode cX9_give 64 = .ok (.iadd, 1) := by decide +kernel
theorem dX9_give_65 : decode cX9_give 65 = .ok (.iconst 0, 1) := by decide +kernel
theorem dX9_give_66 : decode cX9_give 66 = .ok (.iastore, 1) := by decide +kernel
theorem dX9_give_67 : decode cX9_give 67 = .ok (.aload_n 0, 1) := by decide +kernel
theorem dX9_give_68 : decode cX9_give 68 = .ok (.getfield 19, 3) := by decide +kernel
theorem dX9_give_71 : decode cX9_give 71 = .ok (.bipush 26, 2) := by decide +kernel
theorem dX9_give_73 : decode cX9_give 73 = .ok (.iload_n 2, 1) := by decide +kernel
theorem dX9_give_74 : decode cX9_give 74 = .ok (.iadd, 1) := by decide +kernel
theorem dX9_give_75 : decode cX9_give 75 = .ok (.iload_n 3, 1) := by decide +kernel
theorem dX9_give_76 : decode cX9_give 76 = .ok (.iastore, 1) := by decide +kernel
theorem dX9_give_77 : decode cX9_give 77 = .ok (.iload_n 3, 1) := by decide +kernel
theorem dX9_give_78 : decode cX9_give 78 = .ok (.ireturn, 1) := by decide +kernel
theorem dX9_undo_0 : decode cX9_undo 0 = .ok (.aload_n 0, 1) := by decide +kernel
theorem dX9_undo_1 : decode cX9_undo 1 = .ok (.getfield 158, 3) := by decide +kernel
theorem dX9_undo_4 : decode cX9_undo 4 = .ok (.ifCond .ne 6, 3) := by decide +kernel
theorem dX9_undo_7 : decode cX9_undo 7 = .ok (.ldc 183, 2) := by decide +kernel
theorem dX9_undo_9 : decode cX9_undo 9 = .ok (.ireturn, 1) := by decide +kernel
theorem dX9_undo_10 : decode cX9_undo 10 = .ok (.aload_n 0, 1) := by decide +kernel
theorem dX9_undo_11 : decode cX9_undo 11 = .ok (.dup, 1) := by decide +kernel
