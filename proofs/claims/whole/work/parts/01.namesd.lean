theorem dX9_undo_12 : decode cX9_undo 12 = .ok (.getfield 158, 3) := by decide +kernel
theorem dX9_undo_15 : decode cX9_undo 15 = .ok (.iconst 1, 1) := by decide +kernel
theorem dX9_undo_16 : decode cX9_undo 16 = .ok (.isub, 1) := by decide +kernel
theorem dX9_undo_17 : decode cX9_undo 17 = .ok (.putfield 158, 3) := by decide +kernel
theorem dX9_undo_20 : decode cX9_undo 20 = .ok (.iconst 0, 1) := by decide +kernel
theorem dX9_undo_21 : decode cX9_undo 21 = .ok (.istore_n 1, 1) := by decide +kernel
theorem dX9_undo_22 : decode cX9_undo 22 = .ok (.iload_n 1, 1) := by decide +kernel
theorem dX9_undo_23 : decode cX9_undo 23 = .ok (.bipush 56, 2) := by decide +kernel
theorem dX9_undo_25 : decode cX9_undo 25 = .ok (.if_icmp .ge 29, 3) := by decide +kernel
theorem dX9_undo_28 : decode cX9_undo 28 = .ok (.aload_n 0, 1) := by decide +kernel
theorem dX9_undo_29 : decode cX9_undo 29 = .ok (.getfield 19, 3) := by decide +kernel
theorem dX9_undo_32 : decode cX9_undo 32 = .ok (.iload_n 1, 1) := by decide +kernel
theorem dX9_undo_33 : decode cX9_undo 33 = .ok (.aload_n 0, 1) := by decide +kernel
theorem dX9_undo_34 : decode cX9_undo 34 = .ok (.getfield 31, 3) := by decide +kernel
theorem dX9_undo_37 : decode cX9_undo 37 = .ok (.bipush 56, 2) := by decide +kernel
theorem dX9_undo_39 : decode cX9_undo 39 = .ok (.aload_n 0, 1) := by decide +kernel
theorem dX9_undo_40 : decode cX9_undo 40 = .ok (.getfield 158, 3) := by decide +kernel
theorem dX9_undo_43 : decode cX9_undo 43 = .ok (.imul, 1) := by decide +kernel
theorem dX9_undo_44 : decode cX9_undo 44 = .ok (.iload_n 1, 1) := by decide +kernel
theorem dX9_undo_45 : decode cX9_undo 45 = .ok (.iadd, 1) := by decide +kernel
theorem dX9_undo_46 : decode cX9_undo 46 = .ok (.iaload, 1) := by decide +kernel
theorem dX9_undo_47 : decode cX9_undo 47 = .ok (.iastore, 1) := by decide +kernel
theorem dX9_undo_48 : decode cX9_undo 48 = .ok (.iinc 1 1, 3) := by decide +kernel
theorem dX9_undo_51 : decode cX9_undo 51 = .ok (.goto (-29), 3) := by decide +kernel
theorem dX9_undo_54 : decode cX9_undo 54 = .ok (.aload_n 0, 1) := by decide +kernel
theorem dX9_undo_55 : decode cX9_undo 55 = .ok (.getfield 158, 3) := by decide +kernel
theorem dX9_undo_58 : decode cX9_undo 58 = .ok (.ireturn, 1) := by decide +kernel
theorem dX9_walker_0 : decode cX9_walker 0 = .ok (.aload_n 0, 1) := by decide +kernel
theorem dX9_walker_1 : decode cX9_walker 1 = .ok (.iload_n 1, 1) := by decide +kernel
theorem dX9_walker_2 : decode cX9_walker 2 = .ok (.invokevirtual 197, 3) := by decide +kernel
theorem dX9_walker_5 : decode cX9_walker 5 = .ok (.ifCond .ne 6, 3) := by decide +kernel
theorem dX9_walker_8 : decode cX9_walker 8 = .ok (.ldc 76, 2) := by decide +kernel
theorem dX9_walker_10 : decode cX9_walker 10 = .ok (.ireturn, 1) := by decide +kernel
theorem dX9_walker_11 : decode cX9_walker 11 = .ok (.iload_n 2, 1) := by decide +kernel
theorem dX9_walker_12 : decode cX9_walker 12 = .ok (.tableswitch 125 0 5 #[40, 50, 60, 70, 80, 90], 40) := by decide +kernel
theorem dX9_walker_52 : decode cX9_walker 52 = .ok (.aload_n 0, 1) := by decide +kernel
theorem dX9_walker_53 : decode cX9_walker 53 = .ok (.getfield 19, 3) := by decide +kernel
theorem dX9_walker_56 : decode cX9_walker 56 = .ok (.bipush 20, 2) := by decide +kernel
theorem dX9_walker_58 : decode cX9_walker 58 = .ok (.iload_n 1, 1) := by decide +kernel
theorem dX9_walker_59 : decode cX9_walker 59 = .ok (.iadd, 1) := by decide +kernel
theorem dX9_walker_60 : decode cX9_walker 60 = .ok (.iaload, 1) := by decide +kernel
theorem dX9_walker_61 : decode cX9_walker 61 = .ok (.ireturn, 1) := by decide +kernel
theorem dX9_walker_62 : decode cX9_walker 62 = .ok (.aload_n 0, 1) := by decide +kernel
theorem dX9_walker_63 : decode cX9_walker 63 = .ok (.getfield 19, 3) := by decide +kernel
theorem dX9_walker_66 : decode cX9_walker 66 = .ok (.bipush 26, 2) := by decide +kernel
theorem dX9_walker_68 : decode cX9_walker 68 = .ok (.iload_n 1, 1) := by decide +kernel
theorem dX9_walker_69 : decode cX9_walker 69 = .ok (.iadd, 1) := by decide +kernel
theorem dX9_walker_70 : decode cX9_walker 70 = .ok (.iaload, 1) := by decide +kernel
theorem dX9_walker_71 : decode cX9_walker 71 = .ok (.ireturn, 1) := by decide +kernel
theorem dX9_walker_72 : decode cX9_walker 72 = .ok (.aload_n 0, 1) := by decide +kernel
theorem dX9_walker_73 : decode cX9_walker 73 = .ok (.getfield 19, 3) := by decide +kernel
theorem dX9_walker_76 : decode cX9_walker 76 = .ok (.bipush 32, 2) := by decide +kernel
theorem dX9_walker_78 : decode cX9_walker 78 = .ok (.iload_n 1, 1) := by decide +kernel
theorem dX9_walker_79 : decode cX9_walker 79 = .ok (.iadd, 1) := by decide +kernel
theorem dX9_walker_80 : decode cX9_walker 80 = .ok (.iaload, 1) := by decide +kernel
theorem dX9_walker_81 : decode cX9_walker 81 = .ok (.ireturn, 1) := by decide +kernel
theorem dX9_walker_82 : decode cX9_walker 82 = .ok (.aload_n 0, 1) := by decide +kernel
theorem dX9_walker_83 : decode cX9_walker 83 = .ok (.getfield 19, 3) := by decide +kernel
theorem dX9_walker_86 : decode cX9_walker 86 = .ok (.bipush 38, 2) := by decide +kernel
theorem dX9_walker_88 : decode cX9_walker 88 = .ok (.iload_n 1, 1) := by decide +kernel
theorem dX9_walker_89 : decode cX9_walker 89 = .ok (.iadd, 1) := by decide +kernel
theorem dX9_walker_90 : decode cX9_walker 90 = .ok (.iaload, 1) := by decide +kernel
theorem dX9_walker_91 : decode cX9_walker 91 = .ok (.ireturn, 1) := by decide +kernel
theorem dX9_walker_92 : decode cX9_walker 92 = .ok (.aload_n 0, 1) := by decide +kernel
theorem dX9_walker_93 : decode cX9_walker 93 = .ok (.getfield 19, 3) := by decide +kernel
theorem dX9_walker_96 : decode cX9_walker 96 = .ok (.bipush 44, 2) := by decide +kernel
theorem dX9_walker_98 : decode cX9_walker 98 = .ok (.iload_n 1, 1) := by decide +kernel
theorem dX9_walker_99 : decode cX9_walker 99 = .ok (.iadd, 1) := by decide +kernel
theorem dX9_walker_100 : decode cX9_walker 100 = .ok (.iaload, 1) := by decide +kernel
theorem dX9_walker_101 : decode cX9_walker 101 = .ok (.ireturn, 1) := by decide +kernel
theorem dX9_walker_102 : decode cX9_walker 102 = .ok (.aload_n 0, 1) := by decide +kernel
theorem dX9_walker_103 : decode cX9_walker 103 = .ok (.getfield 19, 3) := by decide +kernel
theorem dX9_walker_106 : decode cX9_walker 106 = .ok (.bipush 9, 2) := by decide +kernel
theorem dX9_walker_108 : decode cX9_walker 108 = .ok (.iaload, 1) := by decide +kernel
theorem dX9_walker_109 : decode cX9_walker 109 = .ok (.aload_n 0, 1) := by decide +kernel
theorem dX9_walker_110 : decode cX9_walker 110 = .ok (.getfield 19, 3) := by decide +kernel
theorem dX9_walker_113 : decode cX9_walker 113 = .ok (.bipush 8, 2) := by decide +kernel
theorem dX9_walker_115 : decode cX9_walker 115 = .ok (.iaload, 1) := by decide +kernel
theorem dX9_walker_116 : decode cX9_walker 116 = .ok (.if_icmp .ge 18, 3) := by decide +kernel
theorem dX9_walker_119 : decode cX9_walker 119 = .ok (.aload_n 0, 1) := by decide +kernel
theorem dX9_walker_120 : decode cX9_walker 120 = .ok (.iload_n 1, 1) := by decide +kernel
theorem dX9_walker_121 : decode cX9_walker 121 = .ok (.aload_n 0, 1) := by decide +kernel
theorem dX9_walker_122 : decode cX9_walker 122 = .ok (.getfield 19, 3) := by decide +kernel
theorem dX9_walker_125 : decode cX9_walker 125 = .ok (.bipush 9, 2) := by decide +kernel
theorem dX9_walker_127 : decode cX9_walker 127 = .ok (.iaload, 1) := by decide +kernel
theorem dX9_walker_128 : decode cX9_walker 128 = .ok (.invokevirtual 170, 3) := by decide +kernel
theorem dX9_walker_131 : decode cX9_walker 131 = .ok (.goto 5, 3) := by decide +kernel
theorem dX9_walker_134 : decode cX9_walker 134 = .ok (.ldc 200, 2) := by decide +kernel
theorem dX9_walker_136 : decode cX9_walker 136 = .ok (.ireturn, 1) := by decide +kernel
theorem dX9_walker_137 : decode cX9_walker 137 = .ok (.ldc 76, 2) := by decide +kernel
theorem dX9_walker_139 : decode cX9_walker 139 = .ok (.ireturn, 1) := by decide +kernel
theorem dX9_leg_0 : decode cX9_leg 0 = .ok (.iload_n 1, 1) := by decide +kernel
theorem dX9_leg_1 : decode cX9_leg 1 = .ok (.i2l, 1) := by decide +kernel
theorem dX9_leg_2 : decode cX9_leg 2 = .ok (.lconst 0, 1) := by decide +kernel
theorem dX9_leg_3 : decode cX9_leg 3 = .ok (.aload_n 0, 1) := by decide +kernel
theorem dX9_leg_4 : decode cX9_leg 4 = .ok (.getfield 19, 3) := by decide +kernel
theorem dX9_leg_7 : decode cX9_leg 7 = .ok (.bipush 8, 2) := by decide +kernel
theorem dX9_leg_9 : decode cX9_leg 9 = .ok (.iaload, 1) := by decide +kernel
theorem dX9_leg_10 : decode cX9_leg 10 = .ok (.iconst 1, 1) := by decide +kernel
theorem dX9_leg_11 : decode cX9_leg 11 = .ok (.isub, 1) := by decide +kernel
theorem dX9_leg_12 : decode cX9_leg 12 = .ok (.i2l, 1) := by decide +kernel
theorem dX9_leg_13 : decode cX9_leg 13 = .ok (.invokestatic 66, 3) := by decide +kernel
theorem dX9_leg_16 : decode cX9_leg 16 = .ok (.ifCond .eq 12, 3) := by decide +kernel
theorem dX9_leg_19 : decode cX9_leg 19 = .ok (.aload_n 0, 1) := by decide +kernel
theorem dX9_leg_20 : decode cX9_leg 20 = .ok (.getfield 19, 3) := by decide +kernel
theorem dX9_leg_23 : decode cX9_leg 23 = .ok (.iload_n 1, 1) := by decide +kernel
theorem dX9_leg_24 : decode cX9_leg 24 = .ok (.iaload, 1) := by decide +kernel
theorem dX9_leg_25 : decode cX9_leg 25 = .ok (.goto 5, 3) := by decide +kernel
theorem dX9_leg_28 : decode cX9_leg 28 = .ok (.ldc 76, 2) := by decide +kernel
theorem dX9_leg_30 : decode cX9_leg 30 = .ok (.ireturn, 1) := by decide +kernel
theorem dX9_mends_0 : decode cX9_mends 0 = .ok (.iload_n 1, 1) := by decide +kernel
theorem dX9_mends_1 : decode cX9_mends 1 = .ok (.i2l, 1) := by decide +kernel
theorem dX9_mends_2 : decode cX9_mends 2 = .ok (.lconst 0, 1) := by decide +kernel
theorem dX9_mends_3 : decode cX9_mends 3 = .ok (.ldc2_w 201, 3) := by decide +kernel
theorem dX9_mends_6 : decode cX9_mends 6 = .ok (.invokestatic 66, 3) := by decide +kernel
theorem dX9_mends_9 : decode cX9_mends 9 = .ok (.ifCond .eq 10, 3) := by decide +kernel
theorem dX9_mends_12 : decode cX9_mends 12 = .ok (.iload_n 1, 1) := by decide +kernel
theorem dX9_mends_13 : decode cX9_mends 13 = .ok (.invokestatic 173, 3) := by decide +kernel
theorem dX9_mends_16 : decode cX9_mends 16 = .ok (.goto 5, 3) := by decide +kernel
theorem dX9_mends_19 : decode cX9_mends 19 = .ok (.ldc 76, 2) := by decide +kernel
theorem dX9_mends_21 : decode cX9_mends 21 = .ok (.ireturn, 1) := by decide +kernel
theorem dX9_putAside_0 : decode cX9_putAside 0 = .ok (.iconst 0, 1) := by decide +kernel
theorem dX9_putAside_1 : decode cX9_putAside 1 = .ok (.istore_n 1, 1) := by decide +kernel
theorem dX9_putAside_2 : decode cX9_putAside 2 = .ok (.iload_n 1, 1) := by decide +kernel
theorem dX9_putAside_3 : decode cX9_putAside 3 = .ok (.bipush 56, 2) := by decide +kernel
theorem dX9_putAside_5 : decode cX9_putAside 5 = .ok (.if_icmp .ge 21, 3) := by decide +kernel
theorem dX9_putAside_8 : decode cX9_putAside 8 = .ok (.aload_n 0, 1) := by decide +kernel
theorem dX9_putAside_9 : decode cX9_putAside 9 = .ok (.getfield 34, 3) := by decide +kernel
theorem dX9_putAside_12 : decode cX9_putAside 12 = .ok (.iload_n 1, 1) := by decide +kernel
theorem dX9_putAside_13 : decode cX9_putAside 13 = .ok (.aload_n 0, 1) := by decide +kernel
theorem dX9_putAside_14 : decode cX9_putAside 14 = .ok (.getfield 19, 3) := by decide +kernel
theorem dX9_putAside_17 : decode cX9_putAside 17 = .ok (.iload_n 1, 1) := by decide +kernel
theorem dX9_putAside_18 : decode cX9_putAside 18 = .ok (.iaload, 1) := by decide +kernel
theorem dX9_putAside_19 : decode cX9_putAside 19 = .ok (.iastore, 1) := by decide +kernel
theorem dX9_putAside_20 : decode cX9_putAside 20 = .ok (.iinc 1 1, 3) := by decide +kernel
theorem dX9_putAside_23 : decode cX9_putAside 23 = .ok (.goto (-21), 3) := by decide +kernel
theorem dX9_putAside_26 : decode cX9_putAside 26 = .ok (.return_, 1) := by decide +kernel
theorem dX9_takeBack_0 : decode cX9_takeBack 0 = .ok (.iconst 0, 1) := by decide +kernel
theorem dX9_takeBack_1 : decode cX9_takeBack 1 = .ok (.istore_n 1, 1) := by decide +kernel
theorem dX9_takeBack_2 : decode cX9_takeBack 2 = .ok (.iload_n 1, 1) := by decide +kernel
theorem dX9_takeBack_3 : decode cX9_takeBack 3 = .ok (.bipush 56, 2) := by decide +kernel
theorem dX9_takeBack_5 : decode cX9_takeBack 5 = .ok (.if_icmp .ge 21, 3) := by decide +kernel
theorem dX9_takeBack_8 : decode cX9_takeBack 8 = .ok (.aload_n 0, 1) := by decide +kernel
theorem dX9_takeBack_9 : decode cX9_takeBack 9 = .ok (.getfield 19, 3) := by decide +kernel
theorem dX9_takeBack_12 : decode cX9_takeBack 12 = .ok (.iload_n 1, 1) := by decide +kernel
theorem dX9_takeBack_13 : decode cX9_takeBack 13 = .ok (.aload_n 0, 1) := by decide +kernel
theorem dX9_takeBack_14 : decode cX9_takeBack 14 = .ok (.getfield 34, 3) := by decide +kernel
theorem dX9_takeBack_17 : decode cX9_takeBack 17 = .ok (.iload_n 1, 1) := by decide +kernel
theorem dX9_takeBack_18 : decode cX9_takeBack 18 = .ok (.iaload, 1) := by decide +kernel
theorem dX9_takeBack_19 : decode cX9_takeBack 19 = .ok (.iastore, 1) := by decide +kernel
theorem dX9_takeBack_20 : decode cX9_takeBack 20 = .ok (.iinc 1 1, 3) := by decide +kernel
theorem dX9_takeBack_23 : decode cX9_takeBack 23 = .ok (.goto (-21), 3) := by decide +kernel
theorem dX9_takeBack_26 : decode cX9_takeBack 26 = .ok (.return_, 1) := by decide +kernel
theorem dX9_toHut_0 : decode cX9_toHut 0 = .ok (.aload_n 0, 1) := by decide +kernel
theorem dX9_toHut_1 : decode cX9_toHut 1 = .ok (.iload_n 1, 1) := by decide +kernel
theorem dX9_toHut_2 : decode cX9_toHut 2 = .ok (.putfield 161, 3) := by decide +kernel
theorem dX9_toHut_5 : decode cX9_toHut 5 = .ok (.aload_n 0, 1) := by decide +kernel
theorem dX9_toHut_6 : decode cX9_toHut 6 = .ok (.getfield 19, 3) := by decide +kernel
theorem dX9_toHut_9 : decode cX9_toHut 9 = .ok (.bipush 9, 2) := by decide +kernel
theorem dX9_toHut_11 : decode cX9_toHut 11 = .ok (.iaload, 1) := by decide +kernel
theorem dX9_toHut_12 : decode cX9_toHut 12 = .ok (.aload_n 0, 1) := by decide +kernel
theorem dX9_toHut_13 : decode cX9_toHut 13 = .ok (.getfield 19, 3) := by decide +kernel
theorem dX9_toHut_16 : decode cX9_toHut 16 = .ok (.bipush 8, 2) := by decide +kernel
theorem dX9_toHut_18 : decode cX9_toHut 18 = .ok (.iaload, 1) := by decide +kernel
theorem dX9_toHut_19 : decode cX9_toHut 19 = .ok (.if_icmp .ge 10, 3) := by decide +kernel
theorem dX9_toHut_22 : decode cX9_toHut 22 = .ok (.aload_n 0, 1) := by decide +kernel
theorem dX9_toHut_23 : decode cX9_toHut 23 = .ok (.invokevirtual 190, 3) := by decide +kernel
theorem dX9_toHut_26 : decode cX9_toHut 26 = .ok (.goto (-21), 3) := by decide +kernel
theorem dX9_toHut_29 : decode cX9_toHut 29 = .ok (.iconst 0, 1) := by decide +kernel
theorem dX9_toHut_30 : decode cX9_toHut 30 = .ok (.istore_n 2, 1) := by decide +kernel
theorem dX9_toHut_31 : decode cX9_toHut 31 = .ok (.iconst 0, 1) := by decide +kernel
theorem dX9_toHut_32 : decode cX9_toHut 32 = .ok (.istore_n 3, 1) := by decide +kernel
theorem dX9_toHut_33 : decode cX9_toHut 33 = .ok (.iload_n 3, 1) := by decide +kernel
theorem dX9_toHut_34 : decode cX9_toHut 34 = .ok (.aload_n 0, 1) := by decide +kernel
theorem dX9_toHut_35 : decode cX9_toHut 35 = .ok (.getfield 19, 3) := by decide +kernel
theorem dX9_toHut_38 : decode cX9_toHut 38 = .ok (.bipush 13, 2) := by decide +kernel
theorem dX9_toHut_40 : decode cX9_toHut 40 = .ok (.iaload, 1) := by decide +kernel
theorem dX9_toHut_41 : decode cX9_toHut 41 = .ok (.if_icmp .ge 44, 3) := by decide +kernel
theorem dX9_toHut_44 : decode cX9_toHut 44 = .ok (.iload_n 1, 1) := by decide +kernel
theorem dX9_toHut_45 : decode cX9_toHut 45 = .ok (.iload_n 3, 1) := by decide +kernel
theorem dX9_toHut_46 : decode cX9_toHut 46 = .ok (.invokestatic 164, 3) := by decide +kernel
theorem dX9_toHut_49 : decode cX9_toHut 49 = .ok (.ifCond .eq 28, 3) := by decide +kernel
theorem dX9_toHut_52 : decode cX9_toHut 52 = .ok (.aload_n 0, 1) := by decide +kernel
theorem dX9_toHut_53 : decode cX9_toHut 53 = .ok (.getfield 19, 3) := by decide +kernel
theorem dX9_toHut_56 : decode cX9_toHut 56 = .ok (.bipush 38, 2) := by decide +kernel
theorem dX9_toHut_58 : decode cX9_toHut 58 = .ok (.iload_n 3, 1) := by decide +kernel
theorem dX9_toHut_59 : decode cX9_toHut 59 = .ok (.iadd, 1) := by decide +kernel
theorem dX9_toHut_60 : decode cX9_toHut 60 = .ok (.iaload, 1) := by decide +kernel
theorem dX9_toHut_61 : decode cX9_toHut 61 = .ok (.iload_n 2, 1) := by decide +kernel
theorem dX9_toHut_62 : decode cX9_toHut 62 = .ok (.if_icmp .le 15, 3) := by decide +kernel
theorem dX9_toHut_65 : decode cX9_toHut 65 = .ok (.aload_n 0, 1) := by decide +kernel
theorem dX9_toHut_66 : decode cX9_toHut 66 = .ok (.getfield 19, 3) := by decide +kernel
theorem dX9_toHut_69 : decode cX9_toHut 69 = .ok (.bipush 38, 2) := by decide +kernel
theorem dX9_toHut_71 : decode cX9_toHut 71 = .ok (.iload_n 3, 1) := by decide +kernel
theorem dX9_toHut_72 : decode cX9_toHut 72 = .ok (.iadd, 1) := by decide +kernel
theorem dX9_toHut_73 : decode cX9_toHut 73 = .ok (.iaload, 1) := by decide +kernel
theorem dX9_toHut_74 : decode cX9_toHut 74 = .ok (.goto 4, 3) := by decide +kernel
theorem dX9_toHut_77 : decode cX9_toHut 77 = .ok (.iload_n 2, 1) := by decide +kernel
theorem dX9_toHut_78 : decode cX9_toHut 78 = .ok (.istore_n 2, 1) := by decide +kernel
theorem dX9_toHut_79 : decode cX9_toHut 79 = .ok (.iinc 3 1, 3) := by decide +kernel
theorem dX9_toHut_82 : decode cX9_toHut 82 = .ok (.goto (-49), 3) := by decide +kernel
theorem dX9_toHut_85 : decode cX9_toHut 85 = .ok (.iload_n 2, 1) := by decide +kernel
theorem dX9_toHut_86 : decode cX9_toHut 86 = .ok (.ireturn, 1) := by decide +kernel
theorem dX9_tryAll_0 : decode cX9_tryAll 0 = .ok (.aload_n 0, 1) := by decide +kernel
theorem dX9_tryAll_1 : decode cX9_tryAll 1 = .ok (.invokevirtual 203, 3) := by decide +kernel
theorem dX9_tryAll_4 : decode cX9_tryAll 4 = .ok (.aload_n 0, 1) := by decide +kernel
theorem dX9_tryAll_5 : decode cX9_tryAll 5 = .ok (.getfield 19, 3) := by decide +kernel
theorem dX9_tryAll_8 : decode cX9_tryAll 8 = .ok (.bipush 10, 2) := by decide +kernel
theorem dX9_tryAll_10 : decode cX9_tryAll 10 = .ok (.iload_n 1, 1) := by decide +kernel
theorem dX9_tryAll_11 : decode cX9_tryAll 11 = .ok (.iastore, 1) := by decide +kernel
theorem dX9_tryAll_12 : decode cX9_tryAll 12 = .ok (.aload_n 0, 1) := by decide +kernel
theorem dX9_tryAll_13 : decode cX9_tryAll 13 = .ok (.getfield 19, 3) := by decide +kernel
theorem dX9_tryAll_16 : decode cX9_tryAll 16 = .ok (.bipush 11, 2) := by decide +kernel
theorem dX9_tryAll_18 : decode cX9_tryAll 18 = .ok (.iload_n 2, 1) := by decide +kernel
theorem dX9_tryAll_19 : decode cX9_tryAll 19 = .ok (.iastore, 1) := by decide +kernel
theorem dX9_tryAll_20 : decode cX9_tryAll 20 = .ok (.aload_n 0, 1) := by decide +kernel
theorem dX9_tryAll_21 : decode cX9_tryAll 21 = .ok (.aload_n 0, 1) := by decide +kernel
theorem dX9_tryAll_22 : decode cX9_tryAll 22 = .ok (.invokevirtual 187, 3) := by decide +kernel
theorem dX9_tryAll_25 : decode cX9_tryAll 25 = .ok (.invokevirtual 206, 3) := by decide +kernel
theorem dX9_tryAll_28 : decode cX9_tryAll 28 = .ok (.istore_n 3, 1) := by decide +kernel
theorem dX9_tryAll_29 : decode cX9_tryAll 29 = .ok (.aload_n 0, 1) := by decide +kernel
theorem dX9_tryAll_30 : decode cX9_tryAll 30 = .ok (.invokevirtual 209, 3) := by decide +kernel
theorem dX9_tryAll_33 : decode cX9_tryAll 33 = .ok (.iload_n 3, 1) := by decide +kernel
theorem dX9_tryAll_34 : decode cX9_tryAll 34 = .ok (.ireturn, 1) := by decide +kernel
theorem dX9_there_0 : decode cX9_there 0 = .ok (.aload_n 0, 1) := by decide +kernel
theorem dX9_there_1 : decode cX9_there 1 = .ok (.iload_n 1, 1) := by decide +kernel
theorem dX9_there_2 : decode cX9_there 2 = .ok (.invokevirtual 197, 3) := by decide +kernel
theorem dX9_there_5 : decode cX9_there 5 = .ok (.ifCond .eq 15, 3) := by decide +kernel
theorem dX9_there_8 : decode cX9_there 8 = .ok (.iload_n 2, 1) := by decide +kernel
theorem dX9_there_9 : decode cX9_there 9 = .ok (.i2l, 1) := by decide +kernel
theorem dX9_there_10 : decode cX9_there 10 = .ok (.lconst 0, 1) := by decide +kernel
theorem dX9_there_11 : decode cX9_there 11 = .ok (.ldc2_w 74, 3) := by decide +kernel
theorem dX9_there_14 : decode cX9_there 14 = .ok (.invokestatic 66, 3) := by decide +kernel
theorem dX9_there_17 : decode cX9_there 17 = .ok (.ifCond .ne 6, 3) := by decide +kernel
theorem dX9_there_20 : decode cX9_there 20 = .ok (.ldc 76, 2) := by decide +kernel
theorem dX9_there_22 : decode cX9_there 22 = .ok (.ireturn, 1) := by decide +kernel
theorem dX9_there_23 : decode cX9_there 23 = .ok (.aload_n 0, 1) := by decide +kernel
theorem dX9_there_24 : decode cX9_there 24 = .ok (.invokevirtual 203, 3) := by decide +kernel
theorem dX9_there_27 : decode cX9_there 27 = .ok (.aload_n 0, 1) := by decide +kernel
theorem dX9_there_28 : decode cX9_there 28 = .ok (.aload_n 0, 1) := by decide +kernel
theorem dX9_there_29 : decode cX9_there 29 = .ok (.invokevirtual 187, 3) := by decide +kernel
theorem dX9_there_32 : decode cX9_there 32 = .ok (.invokevirtual 206, 3) := by decide +kernel
theorem dX9_there_35 : decode cX9_there 35 = .ok (.pop, 1) := by decide +kernel
theorem dX9_there_36 : decode cX9_there 36 = .ok (.iload_n 2, 1) := by decide +kernel
theorem dX9_there_37 : decode cX9_there 37 = .ok (.ifCond .ne 15, 3) := by decide +kernel
theorem dX9_there_40 : decode cX9_there 40 = .ok (.aload_n 0, 1) := by decide +kernel
theorem dX9_there_41 : decode cX9_there 41 = .ok (.getfield 19, 3) := by decide +kernel
theorem dX9_there_44 : decode cX9_there 44 = .ok (.bipush 38, 2) := by decide +kernel
theorem dX9_there_46 : decode cX9_there 46 = .ok (.iload_n 1, 1) := by decide +kernel
theorem dX9_there_47 : decode cX9_there 47 = .ok (.iadd, 1) := by decide +kernel
theorem dX9_there_48 : decode cX9_there 48 = .ok (.iaload, 1) := by decide +kernel
theorem dX9_there_49 : decode cX9_there 49 = .ok (.goto 29, 3) := by decide +kernel
theorem dX9_there_52 : decode cX9_there 52 = .ok (.iload_n 2, 1) := by decide +kernel
theorem dX9_there_53 : decode cX9_there 53 = .ok (.iconst 1, 1) := by decide +kernel
theorem dX9_there_54 : decode cX9_there 54 = .ok (.if_icmp .ne 15, 3) := by decide +kernel
theorem dX9_there_57 : decode cX9_there 57 = .ok (.aload_n 0, 1) := by decide +kernel
theorem dX9_there_58 : decode cX9_there 58 = .ok (.getfield 19, 3) := by decide +kernel
theorem dX9_there_61 : decode cX9_there 61 = .ok (.bipush 44, 2) := by decide +kernel
theorem dX9_there_63 : decode cX9_there 63 = .ok (.iload_n 1, 1) := by decide +kernel
theorem dX9_there_64 : decode cX9_there 64 = .ok (.iadd, 1) := by decide +kernel
theorem dX9_there_65 : decode cX9_there 65 = .ok (.iaload, 1) := by decide +kernel
theorem dX9_there_66 : decode cX9_there 66 = .ok (.goto 12, 3) := by decide +kernel
theorem dX9_there_69 : decode cX9_there 69 = .ok (.aload_n 0, 1) := by decide +kernel
theorem dX9_there_70 : decode cX9_there 70 = .ok (.getfield 19, 3) := by decide +kernel
theorem dX9_there_73 : decode cX9_there 73 = .ok (.bipush 32, 2) := by decide +kernel
theorem dX9_there_75 : decode cX9_there 75 = .ok (.iload_n 1, 1) := by decide +kernel
theorem dX9_there_76 : decode cX9_there 76 = .ok (.iadd, 1) := by decide +kernel
theorem dX9_there_77 : decode cX9_there 77 = .ok (.iaload, 1) := by decide +kernel
theorem dX9_there_78 : decode cX9_there 78 = .ok (.istore_n 3, 1) := by decide +kernel
theorem dX9_there_79 : decode cX9_there 79 = .ok (.aload_n 0, 1) := by decide +kernel
theorem dX9_there_80 : decode cX9_there 80 = .ok (.invokevirtual 209, 3) := by decide +kernel
theorem dX9_there_83 : decode cX9_there 83 = .ok (.iload_n 3, 1) := by decide +kernel
theorem dX9_there_84 : decode cX9_there 84 = .ok (.ireturn, 1) := by decide +kernel
theorem dX9_allThere_0 : decode cX9_allThere 0 = .ok (.aload_n 0, 1) := by decide +kernel
theorem dX9_allThere_1 : decode cX9_allThere 1 = .ok (.getfield 154, 3) := by decide +kernel
theorem dX9_allThere_4 : decode cX9_allThere 4 = .ok (.ifCond .eq 24, 3) := by decide +kernel
theorem dX9_allThere_7 : decode cX9_allThere 7 = .ok (.aload_n 0, 1) := by decide +kernel
theorem dX9_allThere_8 : decode cX9_allThere 8 = .ok (.aload_n 0, 1) := by decide +kernel
theorem dX9_allThere_9 : decode cX9_allThere 9 = .ok (.getfield 19, 3) := by decide +kernel
theorem dX9_allThere_12 : decode cX9_allThere 12 = .ok (.bipush 10, 2) := by decide +kernel
theorem dX9_allThere_14 : decode cX9_allThere 14 = .ok (.iaload, 1) := by decide +kernel
theorem dX9_allThere_15 : decode cX9_allThere 15 = .ok (.aload_n 0, 1) := by decide +kernel
theorem dX9_allThere_16 : decode cX9_allThere 16 = .ok (.getfield 19, 3) := by decide +kernel
theorem dX9_allThere_19 : decode cX9_allThere 19 = .ok (.bipush 11, 2) := by decide +kernel
theorem dX9_allThere_21 : decode cX9_allThere 21 = .ok (.iaload, 1) := by decide +kernel
theorem dX9_allThere_22 : decode cX9_allThere 22 = .ok (.invokevirtual 212, 3) := by decide +kernel
theorem dX9_allThere_25 : decode cX9_allThere 25 = .ok (.goto 5, 3) := by decide +kernel
theorem dX9_allThere_28 : decode cX9_allThere 28 = .ok (.ldc 183, 2) := by decide +kernel
theorem dX9_allThere_30 : decode cX9_allThere 30 = .ok (.ireturn, 1) := by decide +kernel
theorem dX9_soonest_0 : decode cX9_soonest 0 = .ok (.aload_n 0, 1) := by decide +kernel
theorem dX9_soonest_1 : decode cX9_soonest 1 = .ok (.getfield 154, 3) := by decide +kernel
theorem dX9_soonest_4 : decode cX9_soonest 4 = .ok (.ifCond .ne 6, 3) := by decide +kernel
theorem dX9_soonest_7 : decode cX9_soonest 7 = .ok (.ldc 183, 2) := by decide +kernel
theorem dX9_soonest_9 : decode cX9_soonest 9 = .ok (.ireturn, 1) := by decide +kernel
theorem dX9_soonest_10 : decode cX9_soonest 10 = .ok (.iload_n 1, 1) := by decide +kernel
theorem dX9_soonest_11 : decode cX9_soonest 11 = .ok (.i2l, 1) := by decide +kernel
theorem dX9_soonest_12 : decode cX9_soonest 12 = .ok (.lconst 0, 1) := by decide +kernel
theorem dX9_soonest_13 : decode cX9_soonest 13 = .ok (.ldc2_w 74, 3) := by decide +kernel
theorem dX9_soonest_16 : decode cX9_soonest 16 = .ok (.invokestatic 66, 3) := by decide +kernel
theorem dX9_soonest_19 : decode cX9_soonest 19 = .ok (.ifCond .ne 6, 3) := by decide +kernel
theorem dX9_soonest_22 : decode cX9_soonest 22 = .ok (.ldc 76, 2) := by decide +kernel
theorem dX9_soonest_24 : decode cX9_soonest 24 = .ok (.ireturn, 1) := by decide +kernel
theorem dX9_soonest_25 : decode cX9_soonest 25 = .ok (.iconst 0, 1) := by decide +kernel
theorem dX9_soonest_26 : decode cX9_soonest 26 = .ok (.istore_n 2, 1) := by decide +kernel
theorem dX9_soonest_27 : decode cX9_soonest 27 = .ok (.iconst (-1), 1) := by decide +kernel
theorem dX9_soonest_28 : decode cX9_soonest 28 = .ok (.istore_n 3, 1) := by decide +kernel
theorem dX9_soonest_29 : decode cX9_soonest 29 = .ok (.iconst 0, 1) := by decide +kernel
theorem dX9_soonest_30 : decode cX9_soonest 30 = .ok (.istore 4, 2) := by decide +kernel
theorem dX9_soonest_32 : decode cX9_soonest 32 = .ok (.iload 4, 2) := by decide +kernel
theorem dX9_soonest_34 : decode cX9_soonest 34 = .ok (.bipush 124, 2) := by decide +kernel
theorem dX9_soonest_36 : decode cX9_soonest 36 = .ok (.if_icmp .ge 55, 3) := by decide +kernel
theorem dX9_soonest_39 : decode cX9_soonest 39 = .ok (.aload_n 0, 1) := by decide +kernel
theorem dX9_soonest_40 : decode cX9_soonest 40 = .ok (.iload 4, 2) := by decide +kernel
theorem dX9_soonest_42 : decode cX9_soonest 42 = .ok (.bipush 31, 2) := by decide +kernel
theorem dX9_soonest_44 : decode cX9_soonest 44 = .ok (.idiv, 1) := by decide +kernel
theorem dX9_soonest_45 : decode cX9_soonest 45 = .ok (.iload 4, 2) := by decide +kernel
theorem dX9_soonest_47 : decode cX9_soonest 47 = .ok (.bipush 31, 2) := by decide +kernel
theorem dX9_soonest_49 : decode cX9_soonest 49 = .ok (.irem, 1) := by decide +kernel
theorem dX9_soonest_50 : decode cX9_soonest 50 = .ok (.invokevirtual 212, 3) := by decide +kernel
theorem dX9_soonest_53 : decode cX9_soonest 53 = .ok (.istore 5, 2) := by decide +kernel
theorem dX9_soonest_55 : decode cX9_soonest 55 = .ok (.iload_n 3, 1) := by decide +kernel
theorem dX9_soonest_56 : decode cX9_soonest 56 = .ok (.ifCond .lt 9, 3) := by decide +kernel
theorem dX9_soonest_59 : decode cX9_soonest 59 = .ok (.iload 5, 2) := by decide +kernel
theorem dX9_soonest_61 : decode cX9_soonest 61 = .ok (.iload_n 3, 1) := by decide +kernel
theorem dX9_soonest_62 : decode cX9_soonest 62 = .ok (.if_icmp .ge 8, 3) := by decide +kernel
theorem dX9_soonest_65 : decode cX9_soonest 65 = .ok (.iload 4, 2) := by decide +kernel
theorem dX9_soonest_67 : decode cX9_soonest 67 = .ok (.goto 4, 3) := by decide +kernel
theorem dX9_soonest_70 : decode cX9_soonest 70 = .ok (.iload_n 2, 1) := by decide +kernel
theorem dX9_soonest_71 : decode cX9_soonest 71 = .ok (.istore_n 2, 1) := by decide +kernel
theorem dX9_soonest_72 : decode cX9_soonest 72 = .ok (.iload_n 2, 1) := by decide +kernel
theorem dX9_soonest_73 : decode cX9_soonest 73 = .ok (.iload 4, 2) := by decide +kernel
theorem dX9_soonest_75 : decode cX9_soonest 75 = .ok (.if_icmp .ne 8, 3) := by decide +kernel
theorem dX9_soonest_78 : decode cX9_soonest 78 = .ok (.iload 5, 2) := by decide +kernel
theorem dX9_soonest_80 : decode cX9_soonest 80 = .ok (.goto 4, 3) := by decide +kernel
theorem dX9_soonest_83 : decode cX9_soonest 83 = .ok (.iload_n 3, 1) := by decide +kernel
theorem dX9_soonest_84 : decode cX9_soonest 84 = .ok (.istore_n 3, 1) := by decide +kernel
theorem dX9_soonest_85 : decode cX9_soonest 85 = .ok (.iinc 4 1, 3) := by decide +kernel
theorem dX9_soonest_88 : decode cX9_soonest 88 = .ok (.goto (-56), 3) := by decide +kernel
theorem dX9_soonest_91 : decode cX9_soonest 91 = .ok (.iload_n 1, 1) := by decide +kernel
theorem dX9_soonest_92 : decode cX9_soonest 92 = .ok (.ifCond .ne 10, 3) := by decide +kernel
theorem dX9_soonest_95 : decode cX9_soonest 95 = .ok (.iload_n 2, 1) := by decide +kernel
theorem dX9_soonest_96 : decode cX9_soonest 96 = .ok (.bipush 31, 2) := by decide +kernel
theorem dX9_soonest_98 : decode cX9_soonest 98 = .ok (.idiv, 1) := by decide +kernel
theorem dX9_soonest_99 : decode cX9_soonest 99 = .ok (.goto 16, 3) := by decide +kernel
theorem dX9_soonest_102 : decode cX9_soonest 102 = .ok (.iload_n 1, 1) := by decide +kernel
theorem dX9_soonest_103 : decode cX9_soonest 103 = .ok (.iconst 1, 1) := by decide +kernel
theorem dX9_soonest_104 : decode cX9_soonest 104 = .ok (.if_icmp .ne 10, 3) := by decide +kernel
theorem dX9_soonest_107 : decode cX9_soonest 107 = .ok (.iload_n 2, 1) := by decide +kernel
theorem dX9_soonest_108 : decode cX9_soonest 108 = .ok (.bipush 31, 2) := by decide +kernel
theorem dX9_soonest_110 : decode cX9_soonest 110 = .ok (.irem, 1) := by decide +kernel
theorem dX9_soonest_111 : decode cX9_soonest 111 = .ok (.goto 4, 3) := by decide +kernel
theorem dX9_soonest_114 : decode cX9_soonest 114 = .ok (.iload_n 3, 1) := by decide +kernel
theorem dX9_soonest_115 : decode cX9_soonest 115 = .ok (.ireturn, 1) := by decide +kernel
theorem dX9_findThen_0 : decode cX9_findThen 0 = .ok (.aload_n 0, 1) := by decide +kernel
theorem dX9_findThen_1 : decode cX9_findThen 1 = .ok (.invokevirtual 203, 3) := by decide +kernel
theorem dX9_findThen_4 : decode cX9_findThen 4 = .ok (.aload_n 0, 1) := by decide +kernel
theorem dX9_findThen_5 : decode cX9_findThen 5 = .ok (.getfield 19, 3) := by decide +kernel
theorem dX9_findThen_8 : decode cX9_findThen 8 = .ok (.bipush 10, 2) := by decide +kernel
theorem dX9_findThen_10 : decode cX9_findThen 10 = .ok (.iload_n 1, 1) := by decide +kernel
theorem dX9_findThen_11 : decode cX9_findThen 11 = .ok (.iastore, 1) := by decide +kernel
theorem dX9_findThen_12 : decode cX9_findThen 12 = .ok (.aload_n 0, 1) := by decide +kernel
theorem dX9_findThen_13 : decode cX9_findThen 13 = .ok (.getfield 19, 3) := by decide +kernel
theorem dX9_findThen_16 : decode cX9_findThen 16 = .ok (.bipush 11, 2) := by decide +kernel
theorem dX9_findThen_18 : decode cX9_findThen 18 = .ok (.iload_n 2, 1) := by decide +kernel
theorem dX9_findThen_19 : decode cX9_findThen 19 = .ok (.iastore, 1) := by decide +kernel
theorem dX9_findThen_20 : decode cX9_findThen 20 = .ok (.aload_n 0, 1) := by decide +kernel
theorem dX9_findThen_21 : decode cX9_findThen 21 = .ok (.aload_n 0, 1) := by decide +kernel
theorem dX9_findThen_22 : decode cX9_findThen 22 = .ok (.invokevirtual 187, 3) := by decide +kernel
theorem dX9_findThen_25 : decode cX9_findThen 25 = .ok (.invokevirtual 206, 3) := by decide +kernel
theorem dX9_findThen_28 : decode cX9_findThen 28 = .ok (.pop, 1) := by decide +kernel
theorem dX9_findThen_29 : decode cX9_findThen 29 = .ok (.iconst 0, 1) := by decide +kernel
theorem dX9_findThen_30 : decode cX9_findThen 30 = .ok (.istore 4, 2) := by decide +kernel
theorem dX9_findThen_32 : decode cX9_findThen 32 = .ok (.iload 4, 2) := by decide +kernel
theorem dX9_findThen_34 : decode cX9_findThen 34 = .ok (.aload_n 0, 1) := by decide +kernel
theorem dX9_findThen_35 : decode cX9_findThen 35 = .ok (.getfield 19, 3) := by decide +kernel
theorem dX9_findThen_38 : decode cX9_findThen 38 = .ok (.bipush 13, 2) := by decide +kernel
theorem dX9_findThen_40 : decode cX9_findThen 40 = .ok (.iaload, 1) := by decide +kernel
theorem dX9_findThen_41 : decode cX9_findThen 41 = .ok (.if_icmp .ge 57, 3) := by decide +kernel
theorem dX9_findThen_44 : decode cX9_findThen 44 = .ok (.aload_n 0, 1) := by decide +kernel
theorem dX9_findThen_45 : decode cX9_findThen 45 = .ok (.getfield 37, 3) := by decide +kernel
theorem dX9_findThen_48 : decode cX9_findThen 48 = .ok (.iload 4, 2) := by decide +kernel
theorem dX9_findThen_50 : decode cX9_findThen 50 = .ok (.iload_n 3, 1) := by decide +kernel
theorem dX9_findThen_51 : decode cX9_findThen 51 = .ok (.ifCond .eq 16, 3) := by decide +kernel
theorem dX9_findThen_54 : decode cX9_findThen 54 = .ok (.aload_n 0, 1) := by decide +kernel
theorem dX9_findThen_55 : decode cX9_findThen 55 = .ok (.getfield 19, 3) := by decide +kernel
theorem dX9_findThen_58 : decode cX9_findThen 58 = .ok (.bipush 38, 2) := by decide +kernel
theorem dX9_findThen_60 : decode cX9_findThen 60 = .ok (.iload 4, 2) := by decide +kernel
theorem dX9_findThen_62 : decode cX9_findThen 62 = .ok (.iadd, 1) := by decide +kernel
theorem dX9_findThen_63 : decode cX9_findThen 63 = .ok (.iaload, 1) := by decide +kernel
theorem dX9_findThen_64 : decode cX9_findThen 64 = .ok (.goto 10, 3) := by decide +kernel
theorem dX9_findThen_67 : decode cX9_findThen 67 = .ok (.aload_n 0, 1) := by decide +kernel
theorem dX9_findThen_68 : decode cX9_findThen 68 = .ok (.getfield 37, 3) := by decide +kernel
theorem dX9_findThen_71 : decode cX9_findThen 71 = .ok (.iload 4, 2) := by decide +kernel
theorem dX9_findThen_73 : decode cX9_findThen 73 = .ok (.iaload, 1) := by decide +kernel
theorem dX9_findThen_74 : decode cX9_findThen 74 = .ok (.iastore, 1) := by decide +kernel
theorem dX9_findThen_75 : decode cX9_findThen 75 = .ok (.aload_n 0, 1) := by decide +kernel
theorem dX9_findThen_76 : decode cX9_findThen 76 = .ok (.getfield 40, 3) := by decide +kernel
theorem dX9_findThen_79 : decode cX9_findThen 79 = .ok (.iload 4, 2) := by decide +kernel
theorem dX9_findThen_81 : decode cX9_findThen 81 = .ok (.aload_n 0, 1) := by decide +kernel
theorem dX9_findThen_82 : decode cX9_findThen 82 = .ok (.getfield 19, 3) := by decide +kernel
theorem dX9_findThen_85 : decode cX9_findThen 85 = .ok (.bipush 38, 2) := by decide +kernel
theorem dX9_findThen_87 : decode cX9_findThen 87 = .ok (.iload 4, 2) := by decide +kernel
theorem dX9_findThen_89 : decode cX9_findThen 89 = .ok (.iadd, 1) := by decide +kernel
theorem dX9_findThen_90 : decode cX9_findThen 90 = .ok (.iaload, 1) := by decide +kernel
theorem dX9_findThen_91 : decode cX9_findThen 91 = .ok (.iastore, 1) := by decide +kernel
theorem dX9_findThen_92 : decode cX9_findThen 92 = .ok (.iinc 4 1, 3) := by decide +kernel
theorem dX9_findThen_95 : decode cX9_findThen 95 = .ok (.goto (-63), 3) := by decide +kernel
theorem dX9_findThen_98 : decode cX9_findThen 98 = .ok (.aload_n 0, 1) := by decide +kernel
theorem dX9_findThen_99 : decode cX9_findThen 99 = .ok (.invokevirtual 209, 3) := by decide +kernel
theorem dX9_findThen_102 : decode cX9_findThen 102 = .ok (.return_, 1) := by decide +kernel
theorem dX9_loses_0 : decode cX9_loses 0 = .ok (.aload_n 0, 1) := by decide +kernel
theorem dX9_loses_1 : decode cX9_loses 1 = .ok (.iload_n 1, 1) := by decide +kernel
theorem dX9_loses_2 : decode cX9_loses 2 = .ok (.invokevirtual 197, 3) := by decide +kernel
theorem dX9_loses_5 : decode cX9_loses 5 = .ok (.ifCond .ne 6, 3) := by decide +kernel
theorem dX9_loses_8 : decode cX9_loses 8 = .ok (.ldc 76, 2) := by decide +kernel
theorem dX9_loses_10 : decode cX9_loses 10 = .ok (.ireturn, 1) := by decide +kernel
theorem dX9_loses_11 : decode cX9_loses 11 = .ok (.aload_n 0, 1) := by decide +kernel
theorem dX9_loses_12 : decode cX9_loses 12 = .ok (.iconst 3, 1) := by decide +kernel
theorem dX9_loses_13 : decode cX9_loses 13 = .ok (.iconst 0, 1) := by decide +kernel
theorem dX9_loses_14 : decode cX9_loses 14 = .ok (.iconst 1, 1) := by decide +kernel
theorem dX9_loses_15 : decode cX9_loses 15 = .ok (.invokevirtual 215, 3) := by decide +kernel
theorem dX9_loses_18 : decode cX9_loses 18 = .ok (.aload_n 0, 1) := by decide +kernel
theorem dX9_loses_19 : decode cX9_loses 19 = .ok (.aload_n 0, 1) := by decide +kernel
theorem dX9_loses_20 : decode cX9_loses 20 = .ok (.getfield 19, 3) := by decide +kernel
theorem dX9_loses_23 : decode cX9_loses 23 = .ok (.bipush 10, 2) := by decide +kernel
theorem dX9_loses_25 : decode cX9_loses 25 = .ok (.iaload, 1) := by decide +kernel
theorem dX9_loses_26 : decode cX9_loses 26 = .ok (.aload_n 0, 1) := by decide +kernel
theorem dX9_loses_27 : decode cX9_loses 27 = .ok (.getfield 19, 3) := by decide +kernel
theorem dX9_loses_30 : decode cX9_loses 30 = .ok (.bipush 11, 2) := by decide +kernel
theorem dX9_loses_32 : decode cX9_loses 32 = .ok (.iaload, 1) := by decide +kernel
theorem dX9_loses_33 : decode cX9_loses 33 = .ok (.iconst 0, 1) := by decide +kernel
theorem dX9_loses_34 : decode cX9_loses 34 = .ok (.invokevirtual 215, 3) := by decide +kernel
theorem dX9_loses_37 : decode cX9_loses 37 = .ok (.aload_n 0, 1) := by decide +kernel
theorem dX9_loses_38 : decode cX9_loses 38 = .ok (.getfield 40, 3) := by decide +kernel
theorem dX9_loses_41 : decode cX9_loses 41 = .ok (.iload_n 1, 1) := by decide +kernel
theorem dX9_loses_42 : decode cX9_loses 42 = .ok (.iaload, 1) := by decide +kernel
theorem dX9_loses_43 : decode cX9_loses 43 = .ok (.aload_n 0, 1) := by decide +kernel
theorem dX9_loses_44 : decode cX9_loses 44 = .ok (.getfield 37, 3) := by decide +kernel
theorem dX9_loses_47 : decode cX9_loses 47 = .ok (.iload_n 1, 1) := by decide +kernel
theorem dX9_loses_48 : decode cX9_loses 48 = .ok (.iaload, 1) := by decide +kernel
theorem dX9_loses_49 : decode cX9_loses 49 = .ok (.isub, 1) := by decide +kernel
theorem dX9_loses_50 : decode cX9_loses 50 = .ok (.ireturn, 1) := by decide +kernel
theorem dX9_fair_0 : decode cX9_fair 0 = .ok (.aload_n 0, 1) := by decide +kernel
theorem dX9_fair_1 : decode cX9_fair 1 = .ok (.getfield 154, 3) := by decide +kernel
theorem dX9_fair_4 : decode cX9_fair 4 = .ok (.ifCond .ne 6, 3) := by decide +kernel
theorem dX9_fair_7 : decode cX9_fair 7 = .ok (.ldc 183, 2) := by decide +kernel
theorem dX9_fair_9 : decode cX9_fair 9 = .ok (.ireturn, 1) := by decide +kernel
theorem dX9_fair_10 : decode cX9_fair 10 = .ok (.iload_n 1, 1) := by decide +kernel
theorem dX9_fair_11 : decode cX9_fair 11 = .ok (.i2l, 1) := by decide +kernel
theorem dX9_fair_12 : decode cX9_fair 12 = .ok (.lconst 0, 1) := by decide +kernel
theorem dX9_fair_13 : decode cX9_fair 13 = .ok (.ldc2_w 74, 3) := by decide +kernel
theorem dX9_fair_16 : decode cX9_fair 16 = .ok (.invokestatic 66, 3) := by decide +kernel
theorem dX9_fair_19 : decode cX9_fair 19 = .ok (.ifCond .ne 6, 3) := by decide +kernel
theorem dX9_fair_22 : decode cX9_fair 22 = .ok (.ldc 76, 2) := by decide +kernel
theorem dX9_fair_24 : decode cX9_fair 24 = .ok (.ireturn, 1) := by decide +kernel
theorem dX9_fair_25 : decode cX9_fair 25 = .ok (.aload_n 0, 1) := by decide +kernel
theorem dX9_fair_26 : decode cX9_fair 26 = .ok (.getfield 19, 3) := by decide +kernel
theorem dX9_fair_29 : decode cX9_fair 29 = .ok (.bipush 13, 2) := by decide +kernel
theorem dX9_fair_31 : decode cX9_fair 31 = .ok (.iaload, 1) := by decide +kernel
theorem dX9_fair_32 : decode cX9_fair 32 = .ok (.ifCond .ne 6, 3) := by decide +kernel
theorem dX9_fair_35 : decode cX9_fair 35 = .ok (.ldc 200, 2) := by decide +kernel
theorem dX9_fair_37 : decode cX9_fair 37 = .ok (.ireturn, 1) := by decide +kernel
theorem dX9_fair_38 : decode cX9_fair 38 = .ok (.aload_n 0, 1) := by decide +kernel
theorem dX9_fair_39 : decode cX9_fair 39 = .ok (.iconst 3, 1) := by decide +kernel
theorem dX9_fair_40 : decode cX9_fair 40 = .ok (.iconst 0, 1) := by decide +kernel
theorem dX9_fair_41 : decode cX9_fair 41 = .ok (.iconst 1, 1) := by decide +kernel
theorem dX9_fair_42 : decode cX9_fair 42 = .ok (.invokevirtual 215, 3) := by decide +kernel
theorem dX9_fair_45 : decode cX9_fair 45 = .ok (.iconst (-1), 1) := by decide +kernel
theorem dX9_fair_46 : decode cX9_fair 46 = .ok (.istore_n 2, 1) := by decide +kernel
theorem dX9_fair_47 : decode cX9_fair 47 = .ok (.iconst 0, 1) := by decide +kernel
theorem dX9_fair_48 : decode cX9_fair 48 = .ok (.istore_n 3, 1) := by decide +kernel
theorem dX9_fair_49 : decode cX9_fair 49 = .ok (.iconst 0, 1) := by decide +kernel
theorem dX9_fair_50 : decode cX9_fair 50 = .ok (.istore 4, 2) := by decide +kernel
theorem dX9_fair_52 : decode cX9_fair 52 = .ok (.iload 4, 2) := by decide +kernel
theorem dX9_fair_54 : decode cX9_fair 54 = .ok (.bipush 124, 2) := by decide +kernel
theorem dX9_fair_56 : decode cX9_fair 56 = .ok (.if_icmp .ge 132, 3) := by decide +kernel
theorem dX9_fair_59 : decode cX9_fair 59 = .ok (.aload_n 0, 1) := by decide +kernel
theorem dX9_fair_60 : decode cX9_fair 60 = .ok (.iload 4, 2) := by decide +kernel
theorem dX9_fair_62 : decode cX9_fair 62 = .ok (.bipush 31, 2) := by decide +kernel
theorem dX9_fair_64 : decode cX9_fair 64 = .ok (.idiv, 1) := by decide +kernel
theorem dX9_fair_65 : decode cX9_fair 65 = .ok (.iload 4, 2) := by decide +kernel
theorem dX9_fair_67 : decode cX9_fair 67 = .ok (.bipush 31, 2) := by decide +kernel
theorem dX9_fair_69 : decode cX9_fair 69 = .ok (.irem, 1) := by decide +kernel
theorem dX9_fair_70 : decode cX9_fair 70 = .ok (.iconst 0, 1) := by decide +kernel
theorem dX9_fair_71 : decode cX9_fair 71 = .ok (.invokevirtual 215, 3) := by decide +kernel
theorem dX9_fair_74 : decode cX9_fair 74 = .ok (.aload_n 0, 1) := by decide +kernel
theorem dX9_fair_75 : decode cX9_fair 75 = .ok (.getfield 40, 3) := by decide +kernel
theorem dX9_fair_78 : decode cX9_fair 78 = .ok (.iconst 0, 1) := by decide +kernel
theorem dX9_fair_79 : decode cX9_fair 79 = .ok (.iaload, 1) := by decide +kernel
theorem dX9_fair_80 : decode cX9_fair 80 = .ok (.aload_n 0, 1) := by decide +kernel
theorem dX9_fair_81 : decode cX9_fair 81 = .ok (.getfield 37, 3) := by decide +kernel
theorem dX9_fair_84 : decode cX9_fair 84 = .ok (.iconst 0, 1) := by decide +kernel
theorem dX9_fair_85 : decode cX9_fair 85 = .ok (.iaload, 1) := by decide +kernel
theorem dX9_fair_86 : decode cX9_fair 86 = .ok (.isub, 1) := by decide +kernel
theorem dX9_fair_87 : decode cX9_fair 87 = .ok (.istore 5, 2) := by decide +kernel
theorem dX9_fair_89 : decode cX9_fair 89 = .ok (.iconst 1, 1) := by decide +kernel
theorem dX9_fair_90 : decode cX9_fair 90 = .ok (.istore 6, 2) := by decide +kernel
theorem dX9_fair_92 : decode cX9_fair 92 = .ok (.iload 6, 2) := by decide +kernel
theorem dX9_fair_94 : decode cX9_fair 94 = .ok (.aload_n 0, 1) := by decide +kernel
theorem dX9_fair_95 : decode cX9_fair 95 = .ok (.getfield 19, 3) := by decide +kernel
theorem dX9_fair_98 : decode cX9_fair 98 = .ok (.bipush 13, 2) := by decide +kernel
theorem dX9_fair_100 : decode cX9_fair 100 = .ok (.iaload, 1) := by decide +kernel
theorem dX9_fair_101 : decode cX9_fair 101 = .ok (.if_icmp .ge 51, 3) := by decide +kernel
theorem dX9_fair_104 : decode cX9_fair 104 = .ok (.aload_n 0, 1) := by decide +kernel
theorem dX9_fair_105 : decode cX9_fair 105 = .ok (.getfield 40, 3) := by decide +kernel
theorem dX9_fair_108 : decode cX9_fair 108 = .ok (.iload 6, 2) := by decide +kernel
theorem dX9_fair_110 : decode cX9_fair 110 = .ok (.iaload, 1) := by decide +kernel
theorem dX9_fair_111 : decode cX9_fair 111 = .ok (.aload_n 0, 1) := by decide +kernel
theorem dX9_fair_112 : decode cX9_fair 112 = .ok (.getfield 37, 3) := by decide +kernel
theorem dX9_fair_115 : decode cX9_fair 115 = .ok (.iload 6, 2) := by decide +kernel
theorem dX9_fair_117 : decode cX9_fair 117 = .ok (.iaload, 1) := by decide +kernel
theorem dX9_fair_118 : decode cX9_fair 118 = .ok (.isub, 1) := by decide +kernel
theorem dX9_fair_119 : decode cX9_fair 119 = .ok (.iload 5, 2) := by decide +kernel
theorem dX9_fair_121 : decode cX9_fair 121 = .ok (.if_icmp .le 21, 3) := by decide +kernel
theorem dX9_fair_124 : decode cX9_fair 124 = .ok (.aload_n 0, 1) := by decide +kernel
theorem dX9_fair_125 : decode cX9_fair 125 = .ok (.getfield 40, 3) := by decide +kernel
theorem dX9_fair_128 : decode cX9_fair 128 = .ok (.iload 6, 2) := by decide +kernel
theorem dX9_fair_130 : decode cX9_fair 130 = .ok (.iaload, 1) := by decide +kernel
theorem dX9_fair_131 : decode cX9_fair 131 = .ok (.aload_n 0, 1) := by decide +kernel
theorem dX9_fair_132 : decode cX9_fair 132 = .ok (.getfield 37, 3) := by decide +kernel
theorem dX9_fair_135 : decode cX9_fair 135 = .ok (.iload 6, 2) := by decide +kernel
theorem dX9_fair_137 : decode cX9_fair 137 = .ok (.iaload, 1) := by decide +kernel
theorem dX9_fair_138 : decode cX9_fair 138 = .ok (.isub, 1) := by decide +kernel
theorem dX9_fair_139 : decode cX9_fair 139 = .ok (.goto 5, 3) := by decide +kernel
theorem dX9_fair_142 : decode cX9_fair 142 = .ok (.iload 5, 2) := by decide +kernel
theorem dX9_fair_144 : decode cX9_fair 144 = .ok (.istore 5, 2) := by decide +kernel
theorem dX9_fair_146 : decode cX9_fair 146 = .ok (.iinc 6 1, 3) := by decide +kernel
theorem dX9_fair_149 : decode cX9_fair 149 = .ok (.goto (-57), 3) := by decide +kernel
theorem dX9_fair_152 : decode cX9_fair 152 = .ok (.iload_n 2, 1) := by decide +kernel
theorem dX9_fair_153 : decode cX9_fair 153 = .ok (.ifCond .lt 9, 3) := by decide +kernel
theorem dX9_fair_156 : decode cX9_fair 156 = .ok (.iload 5, 2) := by decide +kernel
theorem dX9_fair_158 : decode cX9_fair 158 = .ok (.iload_n 3, 1) := by decide +kernel
theorem dX9_fair_159 : decode cX9_fair 159 = .ok (.if_icmp .ge 8, 3) := by decide +kernel
theorem dX9_fair_162 : decode cX9_fair 162 = .ok (.iload 4, 2) := by decide +kernel
theorem dX9_fair_164 : decode cX9_fair 164 = .ok (.goto 4, 3) := by decide +kernel
theorem dX9_fair_167 : decode cX9_fair 167 = .ok (.iload_n 2, 1) := by decide +kernel
theorem dX9_fair_168 : decode cX9_fair 168 = .ok (.istore_n 2, 1) := by decide +kernel
theorem dX9_fair_169 : decode cX9_fair 169 = .ok (.iload_n 2, 1) := by decide +kernel
theorem dX9_fair_170 : decode cX9_fair 170 = .ok (.iload 4, 2) := by decide +kernel
theorem dX9_fair_172 : decode cX9_fair 172 = .ok (.if_icmp .ne 8, 3) := by decide +kernel
theorem dX9_fair_175 : decode cX9_fair 175 = .ok (.iload 5, 2) := by decide +kernel
theorem dX9_fair_177 : decode cX9_fair 177 = .ok (.goto 4, 3) := by decide +kernel
theorem dX9_fair_180 : decode cX9_fair 180 = .ok (.iload_n 3, 1) := by decide +kernel
theorem dX9_fair_181 : decode cX9_fair 181 = .ok (.istore_n 3, 1) := by decide +kernel
theorem dX9_fair_182 : decode cX9_fair 182 = .ok (.iinc 4 1, 3) := by decide +kernel
theorem dX9_fair_185 : decode cX9_fair 185 = .ok (.goto (-133), 3) := by decide +kernel
theorem dX9_fair_188 : decode cX9_fair 188 = .ok (.iload_n 1, 1) := by decide +kernel
theorem dX9_fair_189 : decode cX9_fair 189 = .ok (.ifCond .ne 10, 3) := by decide +kernel
theorem dX9_fair_192 : decode cX9_fair 192 = .ok (.iload_n 2, 1) := by decide +kernel
theorem dX9_fair_193 : decode cX9_fair 193 = .ok (.bipush 31, 2) := by decide +kernel
theorem dX9_fair_195 : decode cX9_fair 195 = .ok (.idiv, 1) := by decide +kernel
theorem dX9_fair_196 : decode cX9_fair 196 = .ok (.goto 16, 3) := by decide +kernel
theorem dX9_fair_199 : decode cX9_fair 199 = .ok (.iload_n 1, 1) := by decide +kernel
theorem dX9_fair_200 : decode cX9_fair 200 = .ok (.iconst 1, 1) := by decide +kernel
theorem dX9_fair_201 : decode cX9_fair 201 = .ok (.if_icmp .ne 10, 3) := by decide +kernel
theorem dX9_fair_204 : decode cX9_fair 204 = .ok (.iload_n 2, 1) := by decide +kernel
theorem dX9_fair_205 : decode cX9_fair 205 = .ok (.bipush 31, 2) := by decide +kernel
theorem dX9_fair_207 : decode cX9_fair 207 = .ok (.irem, 1) := by decide +kernel
theorem dX9_fair_208 : decode cX9_fair 208 = .ok (.goto 4, 3) := by decide +kernel
theorem dX9_fair_211 : decode cX9_fair 211 = .ok (.iload_n 3, 1) := by decide +kernel
theorem dX9_fair_212 : decode cX9_fair 212 = .ok (.ireturn, 1) := by decide +kernel
theorem dX9_nextRow_0 : decode cX9_nextRow 0 = .ok (.iload_n 1, 1) := by decide +kernel
theorem dX9_nextRow_1 : decode cX9_nextRow 1 = .ok (.iconst 2, 1) := by decide +kernel
theorem dX9_nextRow_2 : decode cX9_nextRow 2 = .ok (.isub, 1) := by decide +kernel
theorem dX9_nextRow_3 : decode cX9_nextRow 3 = .ok (.istore_n 2, 1) := by decide +kernel
theorem dX9_nextRow_4 : decode cX9_nextRow 4 = .ok (.iload_n 2, 1) := by decide +kernel
theorem dX9_nextRow_5 : decode cX9_nextRow 5 = .ok (.ifCond .lt 26, 3) := by decide +kernel
theorem dX9_nextRow_8 : decode cX9_nextRow 8 = .ok (.aload_n 0, 1) := by decide +kernel
theorem dX9_nextRow_9 : decode cX9_nextRow 9 = .ok (.getfield 43, 3) := by decide +kernel
theorem dX9_nextRow_12 : decode cX9_nextRow 12 = .ok (.iload_n 2, 1) := by decide +kernel
theorem dX9_nextRow_13 : decode cX9_nextRow 13 = .ok (.iaload, 1) := by decide +kernel
theorem dX9_nextRow_14 : decode cX9_nextRow 14 = .ok (.aload_n 0, 1) := by decide +kernel
theorem dX9_nextRow_15 : decode cX9_nextRow 15 = .ok (.getfield 43, 3) := by decide +kernel
theorem dX9_nextRow_18 : decode cX9_nextRow 18 = .ok (.iload_n 2, 1) := by decide +kernel
theorem dX9_nextRow_19 : decode cX9_nextRow 19 = .ok (.iconst 1, 1) := by decide +kernel
theorem dX9_nextRow_20 : decode cX9_nextRow 20 = .ok (.iadd, 1) := by decide +kernel
theorem dX9_nextRow_21 : decode cX9_nextRow 21 = .ok (.iaload, 1) := by decide +kernel
theorem dX9_nextRow_22 : decode cX9_nextRow 22 = .ok (.if_icmp .le 9, 3) := by decide +kernel
theorem dX9_nextRow_25 : decode cX9_nextRow 25 = .ok (.iinc 2 (-1), 3) := by decide +kernel
theorem dX9_nextRow_28 : decode cX9_nextRow 28 = .ok (.goto (-24), 3) := by decide +kernel
theorem dX9_nextRow_31 : decode cX9_nextRow 31 = .ok (.iload_n 2, 1) := by decide +kernel
theorem dX9_nextRow_32 : decode cX9_nextRow 32 = .ok (.ifCond .ge 5, 3) := by decide +kernel
theorem dX9_nextRow_35 : decode cX9_nextRow 35 = .ok (.iconst 0, 1) := by decide +kernel
theorem dX9_nextRow_36 : decode cX9_nextRow 36 = .ok (.ireturn, 1) := by decide +kernel
theorem dX9_nextRow_37 : decode cX9_nextRow 37 = .ok (.iload_n 1, 1) := by decide +kernel
theorem dX9_nextRow_38 : decode cX9_nextRow 38 = .ok (.iconst 1, 1) := by decide +kernel
theorem dX9_nextRow_39 : decode cX9_nextRow 39 = .ok (.isub, 1) := by decide +kernel
theorem dX9_nextRow_40 : decode cX9_nextRow 40 = .ok (.istore_n 3, 1) := by decide +kernel
theorem dX9_nextRow_41 : decode cX9_nextRow 41 = .ok (.aload_n 0, 1) := by decide +kernel
theorem dX9_nextRow_42 : decode cX9_nextRow 42 = .ok (.getfield 43, 3) := by decide +kernel
theorem dX9_nextRow_45 : decode cX9_nextRow 45 = .ok (.iload_n 3, 1) := by decide +kernel
theorem dX9_nextRow_46 : decode cX9_nextRow 46 = .ok (.iaload, 1) := by decide +kernel
theorem dX9_nextRow_47 : decode cX9_nextRow 47 = .ok (.aload_n 0, 1) := by decide +kernel
theorem dX9_nextRow_48 : decode cX9_nextRow 48 = .ok (.getfield 43, 3) := by decide +kernel
theorem dX9_nextRow_51 : decode cX9_nextRow 51 = .ok (.iload_n 2, 1) := by decide +kernel
theorem dX9_nextRow_52 : decode cX9_nextRow 52 = .ok (.iaload, 1) := by decide +kernel
theorem dX9_nextRow_53 : decode cX9_nextRow 53 = .ok (.if_icmp .ge 9, 3) := by decide +kernel
theorem dX9_nextRow_56 : decode cX9_nextRow 56 = .ok (.iinc 3 (-1), 3) := by decide +kernel
theorem dX9_nextRow_59 : decode cX9_nextRow 59 = .ok (.goto (-18), 3) := by decide +kernel
theorem dX9_nextRow_62 : decode cX9_nextRow 62 = .ok (.aload_n 0, 1) := by decide +kernel
theorem dX9_nextRow_63 : decode cX9_nextRow 63 = .ok (.iload_n 2, 1) := by decide +kernel
theorem dX9_nextRow_64 : decode cX9_nextRow 64 = .ok (.iload_n 3, 1) := by decide +kernel
theorem dX9_nextRow_65 : decode cX9_nextRow 65 = .ok (.invokevirtual 219, 3) := by decide +kernel
theorem dX9_nextRow_68 : decode cX9_nextRow 68 = .ok (.iload_n 1, 1) := by decide +kernel
theorem dX9_nextRow_69 : decode cX9_nextRow 69 = .ok (.iconst 1, 1) := by decide +kernel
theorem dX9_nextRow_70 : decode cX9_nextRow 70 = .ok (.isub, 1) := by decide +kernel
theorem dX9_nextRow_71 : decode cX9_nextRow 71 = .ok (.istore 4, 2) := by decide +kernel
theorem dX9_nextRow_73 : decode cX9_nextRow 73 = .ok (.iload_n 2, 1) := by decide +kernel
theorem dX9_nextRow_74 : decode cX9_nextRow 74 = .ok (.iconst 1, 1) := by decide +kernel
theorem dX9_nextRow_75 : decode cX9_nextRow 75 = .ok (.iadd, 1) := by decide +kernel
theorem dX9_nextRow_76 : decode cX9_nextRow 76 = .ok (.istore 5, 2) := by decide +kernel
theorem dX9_nextRow_78 : decode cX9_nextRow 78 = .ok (.iload 5, 2) := by decide +kernel
theorem dX9_nextRow_80 : decode cX9_nextRow 80 = .ok (.iload 4, 2) := by decide +kernel
theorem dX9_nextRow_82 : decode cX9_nextRow 82 = .ok (.if_icmp .ge 20, 3) := by decide +kernel
theorem dX9_nextRow_85 : decode cX9_nextRow 85 = .ok (.aload_n 0, 1) := by decide +kernel
theorem dX9_nextRow_86 : decode cX9_nextRow 86 = .ok (.iload 5, 2) := by decide +kernel
theorem dX9_nextRow_88 : decode cX9_nextRow 88 = .ok (.iload 4, 2) := by decide +kernel
theorem dX9_nextRow_90 : decode cX9_nextRow 90 = .ok (.invokevirtual 219, 3) := by decide +kernel
theorem dX9_nextRow_93 : decode cX9_nextRow 93 = .ok (.iinc 4 (-1), 3) := by decide +kernel
theorem dX9_nextRow_96 : decode cX9_nextRow 96 = .ok (.iinc 5 1, 3) := by decide +kernel
theorem dX9_nextRow_99 : decode cX9_nextRow 99 = .ok (.goto (-21), 3) := by decide +kernel
theorem dX9_nextRow_102 : decode cX9_nextRow 102 = .ok (.iconst 1, 1) := by decide +kernel
theorem dX9_nextRow_103 : decode cX9_nextRow 103 = .ok (.ireturn, 1) := by decide +kernel
theorem dX9_exchange_0 : decode cX9_exchange 0 = .ok (.aload_n 0, 1) := by decide +kernel
theorem dX9_exchange_1 : decode cX9_exchange 1 = .ok (.getfield 43, 3) := by decide +kernel
theorem dX9_exchange_4 : decode cX9_exchange 4 = .ok (.iload_n 1, 1) := by decide +kernel
theorem dX9_exchange_5 : decode cX9_exchange 5 = .ok (.iaload, 1) := by decide +kernel
theorem dX9_exchange_6 : decode cX9_exchange 6 = .ok (.istore_n 3, 1) := by decide +kernel
theorem dX9_exchange_7 : decode cX9_exchange 7 = .ok (.aload_n 0, 1) := by decide +kernel
theorem dX9_exchange_8 : decode cX9_exchange 8 = .ok (.getfield 43, 3) := by decide +kernel
theorem dX9_exchange_11 : decode cX9_exchange 11 = .ok (.iload_n 1, 1) := by decide +kernel
theorem dX9_exchange_12 : decode cX9_exchange 12 = .ok (.aload_n 0, 1) := by decide +kernel
theorem dX9_exchange_13 : decode cX9_exchange 13 = .ok (.getfield 43, 3) := by decide +kernel
theorem dX9_exchange_16 : decode cX9_exchange 16 = .ok (.iload_n 2, 1) := by decide +kernel
theorem dX9_exchange_17 : decode cX9_exchange 17 = .ok (.iaload, 1) := by decide +kernel
theorem dX9_exchange_18 : decode cX9_exchange 18 = .ok (.iastore, 1) := by decide +kernel
theorem dX9_exchange_19 : decode cX9_exchange 19 = .ok (.aload_n 0, 1) := by decide +kernel
theorem dX9_exchange_20 : decode cX9_exchange 20 = .ok (.getfield 43, 3) := by decide +kernel
theorem dX9_exchange_23 : decode cX9_exchange 23 = .ok (.iload_n 2, 1) := by decide +kernel
theorem dX9_exchange_24 : decode cX9_exchange 24 = .ok (.iload_n 3, 1) := by decide +kernel
theorem dX9_exchange_25 : decode cX9_exchange 25 = .ok (.iastore, 1) := by decide +kernel
theorem dX9_exchange_26 : decode cX9_exchange 26 = .ok (.return_, 1) := by decide +kernel
theorem dX9_sacks_0 : decode cX9_sacks 0 = .ok (.aload_n 0, 1) := by decide +kernel
theorem dX9_sacks_1 : decode cX9_sacks 1 = .ok (.getfield 154, 3) := by decide +kernel
theorem dX9_sacks_4 : decode cX9_sacks 4 = .ok (.ifCond .ne 6, 3) := by decide +kernel
theorem dX9_sacks_7 : decode cX9_sacks 7 = .ok (.ldc 183, 2) := by decide +kernel
theorem dX9_sacks_9 : decode cX9_sacks 9 = .ok (.ireturn, 1) := by decide +kernel
theorem dX9_sacks_10 : decode cX9_sacks 10 = .ok (.aload_n 0, 1) := by decide +kernel
theorem dX9_sacks_11 : decode cX9_sacks 11 = .ok (.getfield 19, 3) := by decide +kernel
theorem dX9_sacks_14 : decode cX9_sacks 14 = .ok (.bipush 13, 2) := by decide +kernel
theorem dX9_sacks_16 : decode cX9_sacks 16 = .ok (.iaload, 1) := by decide +kernel
theorem dX9_sacks_17 : decode cX9_sacks 17 = .ok (.istore_n 2, 1) := by decide +kernel
theorem dX9_sacks_18 : decode cX9_sacks 18 = .ok (.iload_n 1, 1) := by decide +kernel
theorem dX9_sacks_19 : decode cX9_sacks 19 = .ok (.i2l, 1) := by decide +kernel
theorem dX9_sacks_20 : decode cX9_sacks 20 = .ok (.ldc2_w 223, 3) := by decide +kernel
theorem dX9_sacks_23 : decode cX9_sacks 23 = .ok (.iload_n 2, 1) := by decide +kernel
theorem dX9_sacks_24 : decode cX9_sacks 24 = .ok (.iconst 1, 1) := by decide +kernel
theorem dX9_sacks_25 : decode cX9_sacks 25 = .ok (.isub, 1) := by decide +kernel
theorem dX9_sacks_26 : decode cX9_sacks 26 = .ok (.i2l, 1) := by decide +kernel
theorem dX9_sacks_27 : decode cX9_sacks 27 = .ok (.invokestatic 66, 3) := by decide +kernel
theorem dX9_sacks_30 : decode cX9_sacks 30 = .ok (.ifCond .ne 6, 3) := by decide +kernel
theorem dX9_sacks_33 : decode cX9_sacks 33 = .ok (.ldc 76, 2) := by decide +kernel
theorem dX9_sacks_35 : decode cX9_sacks 35 = .ok (.ireturn, 1) := by decide +kernel
theorem dX9_sacks_36 : decode cX9_sacks 36 = .ok (.iconst 0, 1) := by decide +kernel
theorem dX9_sacks_37 : decode cX9_sacks 37 = .ok (.istore_n 3, 1) := by decide +kernel
theorem dX9_sacks_38 : decode cX9_sacks 38 = .ok (.iload_n 3, 1) := by decide +kernel
theorem dX9_sacks_39 : decode cX9_sacks 39 = .ok (.iload_n 2, 1) := by decide +kernel
theorem dX9_sacks_40 : decode cX9_sacks 40 = .ok (.if_icmp .ge 16, 3) := by decide +kernel
theorem dX9_sacks_43 : decode cX9_sacks 43 = .ok (.aload_n 0, 1) := by decide +kernel
theorem dX9_sacks_44 : decode cX9_sacks 44 = .ok (.getfield 43, 3) := by decide +kernel
theorem dX9_sacks_47 : decode cX9_sacks 47 = .ok (.iload_n 3, 1) := by decide +kernel
theorem dX9_sacks_48 : decode cX9_sacks 48 = .ok (.iload_n 3, 1) := by decide +kernel
theorem dX9_sacks_49 : decode cX9_sacks 49 = .ok (.iastore, 1) := by decide +kernel
theorem dX9_sacks_50 : decode cX9_sacks 50 = .ok (.iinc 3 1, 3) := by decide +kernel
theorem dX9_sacks_53 : decode cX9_sacks 53 = .ok (.goto (-15), 3) := by decide +kernel
theorem dX9_sacks_56 : decode cX9_sacks 56 = .ok (.iconst (-1), 1) := by decide +kernel
theorem dX9_sacks_57 : decode cX9_sacks 57 = .ok (.istore_n 3, 1) := by decide +kernel
theorem dX9_sacks_58 : decode cX9_sacks 58 = .ok (.iconst 1, 1) := by decide +kernel
theorem dX9_sacks_59 : decode cX9_sacks 59 = .ok (.istore 4, 2) := by decide +kernel
theorem dX9_sacks_61 : decode cX9_sacks 61 = .ok (.iload 4, 2) := by decide +kernel
theorem dX9_sacks_63 : decode cX9_sacks 63 = .ok (.ifCond .eq 134, 3) := by decide +kernel
theorem dX9_sacks_66 : decode cX9_sacks 66 = .ok (.aload_n 0, 1) := by decide +kernel
theorem dX9_sacks_67 : decode cX9_sacks 67 = .ok (.invokevirtual 203, 3) := by decide +kernel
theorem dX9_sacks_70 : decode cX9_sacks 70 = .ok (.iconst 0, 1) := by decide +kernel
theorem dX9_sacks_71 : decode cX9_sacks 71 = .ok (.istore 5, 2) := by decide +kernel
theorem dX9_sacks_73 : decode cX9_sacks 73 = .ok (.iload 5, 2) := by decide +kernel
theorem dX9_sacks_75 : decode cX9_sacks 75 = .ok (.iload_n 2, 1) := by decide +kernel
theorem dX9_sacks_76 : decode cX9_sacks 76 = .ok (.if_icmp .ge 34, 3) := by decide +kernel
theorem dX9_sacks_79 : decode cX9_sacks 79 = .ok (.aload_n 0, 1) := by decide +kernel
theorem dX9_sacks_80 : decode cX9_sacks 80 = .ok (.getfield 19, 3) := by decide +kernel
theorem dX9_sacks_83 : decode cX9_sacks 83 = .ok (.bipush 26, 2) := by decide +kernel
theorem dX9_sacks_85 : decode cX9_sacks 85 = .ok (.iload 5, 2) := by decide +kernel
theorem dX9_sacks_87 : decode cX9_sacks 87 = .ok (.iadd, 1) := by decide +kernel
theorem dX9_sacks_88 : decode cX9_sacks 88 = .ok (.aload_n 0, 1) := by decide +kernel
theorem dX9_sacks_89 : decode cX9_sacks 89 = .ok (.getfield 34, 3) := by decide +kernel
theorem dX9_sacks_92 : decode cX9_sacks 92 = .ok (.bipush 26, 2) := by decide +kernel
theorem dX9_sacks_94 : decode cX9_sacks 94 = .ok (.aload_n 0, 1) := by decide +kernel
theorem dX9_sacks_95 : decode cX9_sacks 95 = .ok (.getfield 43, 3) := by decide +kernel
theorem dX9_sacks_98 : decode cX9_sacks 98 = .ok (.iload 5, 2) := by decide +kernel
theorem dX9_sacks_100 : decode cX9_sacks 100 = .ok (.iaload, 1) := by decide +kernel
theorem dX9_sacks_101 : decode cX9_sacks 101 = .ok (.iadd, 1) := by decide +kernel
theorem dX9_sacks_102 : decode cX9_sacks 102 = .ok (.iaload, 1) := by decide +kernel
theorem dX9_sacks_103 : decode cX9_sacks 103 = .ok (.iastore, 1) := by decide +kernel
theorem dX9_sacks_104 : decode cX9_sacks 104 = .ok (.iinc 5 1, 3) := by decide +kernel
theorem dX9_sacks_107 : decode cX9_sacks 107 = .ok (.goto (-34), 3) := by decide +kernel
theorem dX9_sacks_110 : decode cX9_sacks 110 = .ok (.aload_n 0, 1) := by decide +kernel
theorem dX9_sacks_111 : decode cX9_sacks 111 = .ok (.aload_n 0, 1) := by decide +kernel
theorem dX9_sacks_112 : decode cX9_sacks 112 = .ok (.invokevirtual 187, 3) := by decide +kernel
theorem dX9_sacks_115 : decode cX9_sacks 115 = .ok (.invokevirtual 206, 3) := by decide +kernel
theorem dX9_sacks_118 : decode cX9_sacks 118 = .ok (.istore 5, 2) := by decide +kernel
theorem dX9_sacks_120 : decode cX9_sacks 120 = .ok (.aload_n 0, 1) := by decide +kernel
theorem dX9_sacks_121 : decode cX9_sacks 121 = .ok (.invokevirtual 209, 3) := by decide +kernel
theorem dX9_sacks_124 : decode cX9_sacks 124 = .ok (.iload_n 3, 1) := by decide +kernel
theorem dX9_sacks_125 : decode cX9_sacks 125 = .ok (.ifCond .lt 9, 3) := by decide +kernel
theorem dX9_sacks_128 : decode cX9_sacks 128 = .ok (.iload 5, 2) := by decide +kernel
theorem dX9_sacks_130 : decode cX9_sacks 130 = .ok (.iload_n 3, 1) := by decide +kernel
theorem dX9_sacks_131 : decode cX9_sacks 131 = .ok (.if_icmp .ge 7, 3) := by decide +kernel
theorem dX9_sacks_134 : decode cX9_sacks 134 = .ok (.iconst 1, 1) := by decide +kernel
theorem dX9_sacks_135 : decode cX9_sacks 135 = .ok (.goto 4, 3) := by decide +kernel
theorem dX9_sacks_138 : decode cX9_sacks 138 = .ok (.iconst 0, 1) := by decide +kernel
theorem dX9_sacks_139 : decode cX9_sacks 139 = .ok (.istore 6, 2) := by decide +kernel
theorem dX9_sacks_141 : decode cX9_sacks 141 = .ok (.iload 6, 2) := by decide +kernel
theorem dX9_sacks_143 : decode cX9_sacks 143 = .ok (.ifCond .eq 8, 3) := by decide +kernel
theorem dX9_sacks_146 : decode cX9_sacks 146 = .ok (.iload 5, 2) := by decide +kernel
theorem dX9_sacks_148 : decode cX9_sacks 148 = .ok (.goto 4, 3) := by decide +kernel
theorem dX9_sacks_151 : decode cX9_sacks 151 = .ok (.iload_n 3, 1) := by decide +kernel
theorem dX9_sacks_152 : decode cX9_sacks 152 = .ok (.istore_n 3, 1) := by decide +kernel
theorem dX9_sacks_153 : decode cX9_sacks 153 = .ok (.iconst 0, 1) := by decide +kernel
theorem dX9_sacks_154 : decode cX9_sacks 154 = .ok (.istore 7, 2) := by decide +kernel
theorem dX9_sacks_156 : decode cX9_sacks 156 = .ok (.iload 7, 2) := by decide +kernel
theorem dX9_sacks_158 : decode cX9_sacks 158 = .ok (.iload_n 2, 1) := by decide +kernel
theorem dX9_sacks_159 : decode cX9_sacks 159 = .ok (.if_icmp .ge 28, 3) := by decide +kernel
theorem dX9_sacks_162 : decode cX9_sacks 162 = .ok (.iload 6, 2) := by decide +kernel
theorem dX9_sacks_164 : decode cX9_sacks 164 = .ok (.ifCond .eq 23, 3) := by decide +kernel
theorem dX9_sacks_167 : decode cX9_sacks 167 = .ok (.aload_n 0, 1) := by decide +kernel
theorem dX9_sacks_168 : decode cX9_sacks 168 = .ok (.getfield 46, 3) := by decide +kernel
theorem dX9_sacks_171 : decode cX9_sacks 171 = .ok (.iload 7, 2) := by decide +kernel
theorem dX9_sacks_173 : decode cX9_sacks 173 = .ok (.aload_n 0, 1) := by decide +kernel
theorem dX9_sacks_174 : decode cX9_sacks 174 = .ok (.getfield 43, 3) := by decide +kernel
theorem dX9_sacks_177 : decode cX9_sacks 177 = .ok (.iload 7, 2) := by decide +kernel
theorem dX9_sacks_179 : decode cX9_sacks 179 = .ok (.iaload, 1) := by decide +kernel
theorem dX9_sacks_180 : decode cX9_sacks 180 = .ok (.iastore, 1) := by decide +kernel
theorem dX9_sacks_181 : decode cX9_sacks 181 = .ok (.iinc 7 1, 3) := by decide +kernel
theorem dX9_sacks_184 : decode cX9_sacks 184 = .ok (.goto (-28), 3) := by decide +kernel
theorem dX9_sacks_187 : decode cX9_sacks 187 = .ok (.aload_n 0, 1) := by decide +kernel
theorem dX9_sacks_188 : decode cX9_sacks 188 = .ok (.iload_n 2, 1) := by decide +kernel
theorem dX9_sacks_189 : decode cX9_sacks 189 = .ok (.invokevirtual 225, 3) := by decide +kernel
theorem dX9_sacks_192 : decode cX9_sacks 192 = .ok (.istore 4, 2) := by decide +kernel
theorem dX9_sacks_194 : decode cX9_sacks 194 = .ok (.goto (-133), 3) := by decide +kernel
theorem dX9_sacks_197 : decode cX9_sacks 197 = .ok (.iload_n 1, 1) := by decide +kernel
theorem dX9_sacks_198 : decode cX9_sacks 198 = .ok (.ifCond .ge 7, 3) := by decide +kernel
theorem dX9_sacks_201 : decode cX9_sacks 201 = .ok (.iload_n 3, 1) := by decide +kernel
theorem dX9_sacks_202 : decode cX9_sacks 202 = .ok (.goto 9, 3) := by decide +kernel
theorem dX9_sacks_205 : decode cX9_sacks 205 = .ok (.aload_n 0, 1) := by decide +kernel
theorem dX9_sacks_206 : decode cX9_sacks 206 = .ok (.getfield 46, 3) := by decide +kernel
theorem dX9_sacks_209 : decode cX9_sacks 209 = .ok (.iload_n 1, 1) := by decide +kernel
theorem dX9_sacks_210 : decode cX9_sacks 210 = .ok (.iaload, 1) := by decide +kernel
theorem dX9_sacks_211 : decode cX9_sacks 211 = .ok (.ireturn, 1) := by decide +kernel
theorem dX9_parties_0 : decode cX9_parties 0 = .ok (.aload_n 0, 1) := by decide +kernel
theorem dX9_parties_1 : decode cX9_parties 1 = .ok (.getfield 154, 3) := by decide +kernel
theorem dX9_parties_4 : decode cX9_parties 4 = .ok (.ifCond .ne 6, 3) := by decide +kernel
theorem dX9_parties_7 : decode cX9_parties 7 = .ok (.ldc 183, 2) := by decide +kernel
theorem dX9_parties_9 : decode cX9_parties 9 = .ok (.ireturn, 1) := by decide +kernel
theorem dX9_parties_10 : decode cX9_parties 10 = .ok (.iload_n 1, 1) := by decide +kernel
theorem dX9_parties_11 : decode cX9_parties 11 = .ok (.i2l, 1) := by decide +kernel
theorem dX9_parties_12 : decode cX9_parties 12 = .ok (.lconst 0, 1) := by decide +kernel
theorem dX9_parties_13 : decode cX9_parties 13 = .ok (.lconst 1, 1) := by decide +kernel
theorem dX9_parties_14 : decode cX9_parties 14 = .ok (.invokestatic 66, 3) := by decide +kernel
theorem dX9_parties_17 : decode cX9_parties 17 = .ok (.ifCond .ne 6, 3) := by decide +kernel
theorem dX9_parties_20 : decode cX9_parties 20 = .ok (.ldc 76, 2) := by decide +kernel
theorem dX9_parties_22 : decode cX9_parties 22 = .ok (.ireturn, 1) := by decide +kernel
theorem dX9_parties_23 : decode cX9_parties 23 = .ok (.iconst 0, 1) := by decide +kernel
theorem dX9_parties_24 : decode cX9_parties 24 = .ok (.istore_n 2, 1) := by decide +kernel
theorem dX9_parties_25 : decode cX9_parties 25 = .ok (.iconst (-1), 1) := by decide +kernel
theorem dX9_parties_26 : decode cX9_parties 26 = .ok (.istore_n 3, 1) := by decide +kernel
theorem dX9_parties_27 : decode cX9_parties 27 = .ok (.iconst 0, 1) := by decide +kernel
theorem dX9_parties_28 : decode cX9_parties 28 = .ok (.istore 4, 2) := by decide +kernel
theorem dX9_parties_30 : decode cX9_parties 30 = .ok (.iload 4, 2) := by decide +kernel
theorem dX9_parties_32 : decode cX9_parties 32 = .ok (.aload_n 0, 1) := by decide +kernel
theorem dX9_parties_33 : decode cX9_parties 33 = .ok (.invokevirtual 187, 3) := by decide +kernel
theorem dX9_parties_36 : decode cX9_parties 36 = .ok (.if_icmp .gt 90, 3) := by decide +kernel
theorem dX9_parties_39 : decode cX9_parties 39 = .ok (.aload_n 0, 1) := by decide +kernel
theorem dX9_parties_40 : decode cX9_parties 40 = .ok (.invokevirtual 203, 3) := by decide +kernel
theorem dX9_parties_43 : decode cX9_parties 43 = .ok (.aload_n 0, 1) := by decide +kernel
theorem dX9_parties_44 : decode cX9_parties 44 = .ok (.iload 4, 2) := by decide +kernel
theorem dX9_parties_46 : decode cX9_parties 46 = .ok (.invokevirtual 206, 3) := by decide +kernel
theorem dX9_parties_49 : decode cX9_parties 49 = .ok (.istore 5, 2) := by decide +kernel
theorem dX9_parties_51 : decode cX9_parties 51 = .ok (.aload_n 0, 1) := by decide +kernel
theorem dX9_parties_52 : decode cX9_parties 52 = .ok (.invokevirtual 209, 3) := by decide +kernel
theorem dX9_parties_55 : decode cX9_parties 55 = .ok (.aload_n 0, 1) := by decide +kernel
theorem dX9_parties_56 : decode cX9_parties 56 = .ok (.aload_n 0, 1) := by decide +kernel
theorem dX9_parties_57 : decode cX9_parties 57 = .ok (.invokevirtual 187, 3) := by decide +kernel
theorem dX9_parties_60 : decode cX9_parties 60 = .ok (.iload 4, 2) := by decide +kernel
theorem dX9_parties_62 : decode cX9_parties 62 = .ok (.iconst (-1), 1) := by decide +kernel
theorem dX9_parties_63 : decode cX9_parties 63 = .ok (.ixor, 1) := by decide +kernel
theorem dX9_parties_64 : decode cX9_parties 64 = .ok (.iand, 1) := by decide +kernel
theorem dX9_parties_65 : decode cX9_parties 65 = .ok (.invokevirtual 206, 3) := by decide +kernel
theorem dX9_parties_68 : decode cX9_parties 68 = .ok (.istore 6, 2) := by decide +kernel
theorem dX9_parties_70 : decode cX9_parties 70 = .ok (.aload_n 0, 1) := by decide +kernel
theorem dX9_parties_71 : decode cX9_parties 71 = .ok (.invokevirtual 209, 3) := by decide +kernel
theorem dX9_parties_74 : decode cX9_parties 74 = .ok (.iload 5, 2) := by decide +kernel
theorem dX9_parties_76 : decode cX9_parties 76 = .ok (.iload 6, 2) := by decide +kernel
theorem dX9_parties_78 : decode cX9_parties 78 = .ok (.if_icmp .le 8, 3) := by decide +kernel
theorem dX9_parties_81 : decode cX9_parties 81 = .ok (.iload 5, 2) := by decide +kernel
theorem dX9_parties_83 : decode cX9_parties 83 = .ok (.goto 5, 3) := by decide +kernel
theorem dX9_parties_86 : decode cX9_parties 86 = .ok (.iload 6, 2) := by decide +kernel
theorem dX9_parties_88 : decode cX9_parties 88 = .ok (.istore 7, 2) := by decide +kernel
theorem dX9_parties_90 : decode cX9_parties 90 = .ok (.iload_n 3, 1) := by decide +kernel
theorem dX9_parties_91 : decode cX9_parties 91 = .ok (.ifCond .lt 9, 3) := by decide +kernel
theorem dX9_parties_94 : decode cX9_parties 94 = .ok (.iload 7, 2) := by decide +kernel
theorem dX9_parties_96 : decode cX9_parties 96 = .ok (.iload_n 3, 1) := by decide +kernel
theorem dX9_parties_97 : decode cX9_parties 97 = .ok (.if_icmp .ge 8, 3) := by decide +kernel
theorem dX9_parties_100 : decode cX9_parties 100 = .ok (.iload 4, 2) := by decide +kernel
theorem dX9_parties_102 : decode cX9_parties 102 = .ok (.goto 4, 3) := by decide +kernel
theorem dX9_parties_105 : decode cX9_parties 105 = .ok (.iload_n 2, 1) := by decide +kernel
theorem dX9_parties_106 : decode cX9_parties 106 = .ok (.istore_n 2, 1) := by decide +kernel
theorem dX9_parties_107 : decode cX9_parties 107 = .ok (.iload_n 2, 1) := by decide +kernel
theorem dX9_parties_108 : decode cX9_parties 108 = .ok (.iload 4, 2) := by decide +kernel
theorem dX9_parties_110 : decode cX9_parties 110 = .ok (.if_icmp .ne 8, 3) := by decide +kernel
theorem dX9_parties_113 : decode cX9_parties 113 = .ok (.iload 7, 2) := by decide +kernel
theorem dX9_parties_115 : decode cX9_parties 115 = .ok (.goto 4, 3) := by decide +kernel
theorem dX9_parties_118 : decode cX9_parties 118 = .ok (.iload_n 3, 1) := by decide +kernel
theorem dX9_parties_119 : decode cX9_parties 119 = .ok (.istore_n 3, 1) := by decide +kernel
theorem dX9_parties_120 : decode cX9_parties 120 = .ok (.iinc 4 2, 3) := by decide +kernel
theorem dX9_parties_123 : decode cX9_parties 123 = .ok (.goto (-93), 3) := by decide +kernel
theorem dX9_parties_126 : decode cX9_parties 126 = .ok (.iload_n 1, 1) := by decide +kernel
theorem dX9_parties_127 : decode cX9_parties 127 = .ok (.ifCond .ne 7, 3) := by decide +kernel
theorem dX9_parties_130 : decode cX9_parties 130 = .ok (.iload_n 2, 1) := by decide +kernel
theorem dX9_parties_131 : decode cX9_parties 131 = .ok (.goto 4, 3) := by decide +kernel
theorem dX9_parties_134 : decode cX9_parties 134 = .ok (.iload_n 3, 1) := by decide +kernel
theorem dX9_parties_135 : decode cX9_parties 135 = .ok (.ireturn, 1) := by decide +kernel
theorem dX9_isBack_0 : decode cX9_isBack 0 = .ok (.aload_n 0, 1) := by decide +kernel
theorem dX9_isBack_1 : decode cX9_isBack 1 = .ok (.getfield 19, 3) := by decide +kernel
theorem dX9_isBack_4 : decode cX9_isBack 4 = .ok (.bipush 9, 2) := by decide +kernel
theorem dX9_isBack_6 : decode cX9_isBack 6 = .ok (.iaload, 1) := by decide +kernel
theorem dX9_isBack_7 : decode cX9_isBack 7 = .ok (.iconst 1, 1) := by decide +kernel
theorem dX9_isBack_8 : decode cX9_isBack 8 = .ok (.isub, 1) := by decide +kernel
theorem dX9_isBack_9 : decode cX9_isBack 9 = .ok (.istore_n 1, 1) := by decide +kernel
theorem dX9_isBack_10 : decode cX9_isBack 10 = .ok (.iload_n 1, 1) := by decide +kernel
theorem dX9_isBack_11 : decode cX9_isBack 11 = .ok (.ifCond .lt 14, 3) := by decide +kernel
theorem dX9_isBack_14 : decode cX9_isBack 14 = .ok (.aload_n 0, 1) := by decide +kernel
theorem dX9_isBack_15 : decode cX9_isBack 15 = .ok (.iload_n 1, 1) := by decide +kernel
theorem dX9_isBack_16 : decode cX9_isBack 16 = .ok (.invokevirtual 176, 3) := by decide +kernel
theorem dX9_isBack_19 : decode cX9_isBack 19 = .ok (.iinc 1 (-1), 3) := by decide +kernel
theorem dX9_isBack_22 : decode cX9_isBack 22 = .ok (.goto (-12), 3) := by decide +kernel
theorem dX9_isBack_25 : decode cX9_isBack 25 = .ok (.iconst 1, 1) := by decide +kernel
theorem dX9_isBack_26 : decode cX9_isBack 26 = .ok (.istore_n 1, 1) := by decide +kernel
theorem dX9_isBack_27 : decode cX9_isBack 27 = .ok (.iconst 0, 1) := by decide +kernel
theorem dX9_isBack_28 : decode cX9_isBack 28 = .ok (.istore_n 2, 1) := by decide +kernel
theorem dX9_isBack_29 : decode cX9_isBack 29 = .ok (.iload_n 2, 1) := by decide +kernel
theorem dX9_isBack_30 : decode cX9_isBack 30 = .ok (.aload_n 0, 1) := by decide +kernel
theorem dX9_isBack_31 : decode cX9_isBack 31 = .ok (.getfield 19, 3) := by decide +kernel
theorem dX9_isBack_34 : decode cX9_isBack 34 = .ok (.bipush 13, 2) := by decide +kernel
theorem dX9_isBack_36 : decode cX9_isBack 36 = .ok (.iaload, 1) := by decide +kernel
theorem dX9_isBack_37 : decode cX9_isBack 37 = .ok (.if_icmp .ge 38, 3) := by decide +kernel
theorem dX9_isBack_40 : decode cX9_isBack 40 = .ok (.iload_n 1, 1) := by decide +kernel
theorem dX9_isBack_41 : decode cX9_isBack 41 = .ok (.ifCond .eq 26, 3) := by decide +kernel
theorem dX9_isBack_44 : decode cX9_isBack 44 = .ok (.aload_n 0, 1) := by decide +kernel
theorem dX9_isBack_45 : decode cX9_isBack 45 = .ok (.getfield 19, 3) := by decide +kernel
theorem dX9_isBack_48 : decode cX9_isBack 48 = .ok (.bipush 38, 2) := by decide +kernel
theorem dX9_isBack_50 : decode cX9_isBack 50 = .ok (.iload_n 2, 1) := by decide +kernel
theorem dX9_isBack_51 : decode cX9_isBack 51 = .ok (.iadd, 1) := by decide +kernel
theorem dX9_isBack_52 : decode cX9_isBack 52 = .ok (.iaload, 1) := by decide +kernel
theorem dX9_isBack_53 : decode cX9_isBack 53 = .ok (.aload_n 0, 1) := by decide +kernel
theorem dX9_isBack_54 : decode cX9_isBack 54 = .ok (.getfield 19, 3) := by decide +kernel
theorem dX9_isBack_57 : decode cX9_isBack 57 = .ok (.bipush 12, 2) := by decide +kernel
theorem dX9_isBack_59 : decode cX9_isBack 59 = .ok (.iaload, 1) := by decide +kernel
theorem dX9_isBack_60 : decode cX9_isBack 60 = .ok (.if_icmp .gt 7, 3) := by decide +kernel
theorem dX9_isBack_63 : decode cX9_isBack 63 = .ok (.iconst 1, 1) := by decide +kernel
theorem dX9_isBack_64 : decode cX9_isBack 64 = .ok (.goto 4, 3) := by decide +kernel
theorem dX9_isBack_67 : decode cX9_isBack 67 = .ok (.iconst 0, 1) := by decide +kernel
theorem dX9_isBack_68 : decode cX9_isBack 68 = .ok (.istore_n 1, 1) := by decide +kernel
theorem dX9_isBack_69 : decode cX9_isBack 69 = .ok (.iinc 2 1, 3) := by decide +kernel
theorem dX9_isBack_72 : decode cX9_isBack 72 = .ok (.goto (-43), 3) := by decide +kernel
theorem dX9_isBack_75 : decode cX9_isBack 75 = .ok (.iload_n 1, 1) := by decide +kernel
theorem dX9_isBack_76 : decode cX9_isBack 76 = .ok (.ireturn, 1) := by decide +kernel
theorem dX9_turn_0 : decode cX9_turn 0 = .ok (.aload_n 0, 1) := by decide +kernel
theorem dX9_turn_1 : decode cX9_turn 1 = .ok (.getfield 154, 3) := by decide +kernel
theorem dX9_turn_4 : decode cX9_turn 4 = .ok (.ifCond .ne 6, 3) := by decide +kernel
theorem dX9_turn_7 : decode cX9_turn 7 = .ok (.ldc 183, 2) := by decide +kernel
theorem dX9_turn_9 : decode cX9_turn 9 = .ok (.ireturn, 1) := by decide +kernel
theorem dX9_turn_10 : decode cX9_turn 10 = .ok (.ldc 200, 2) := by decide +kernel
theorem dX9_turn_12 : decode cX9_turn 12 = .ok (.istore_n 1, 1) := by decide +kernel
theorem dX9_turn_13 : decode cX9_turn 13 = .ok (.aload_n 0, 1) := by decide +kernel
theorem dX9_turn_14 : decode cX9_turn 14 = .ok (.aload_n 0, 1) := by decide +kernel
theorem dX9_turn_15 : decode cX9_turn 15 = .ok (.invokevirtual 187, 3) := by decide +kernel
theorem dX9_turn_18 : decode cX9_turn 18 = .ok (.putfield 161, 3) := by decide +kernel
theorem dX9_turn_21 : decode cX9_turn 21 = .ok (.aload_n 0, 1) := by decide +kernel
theorem dX9_turn_22 : decode cX9_turn 22 = .ok (.getfield 19, 3) := by decide +kernel
theorem dX9_turn_25 : decode cX9_turn 25 = .ok (.bipush 9, 2) := by decide +kernel
theorem dX9_turn_27 : decode cX9_turn 27 = .ok (.iaload, 1) := by decide +kernel
theorem dX9_turn_28 : decode cX9_turn 28 = .ok (.istore_n 2, 1) := by decide +kernel
theorem dX9_turn_29 : decode cX9_turn 29 = .ok (.iload_n 2, 1) := by decide +kernel
theorem dX9_turn_30 : decode cX9_turn 30 = .ok (.istore_n 3, 1) := by decide +kernel
theorem dX9_turn_31 : decode cX9_turn 31 = .ok (.iload_n 3, 1) := by decide +kernel
theorem dX9_turn_32 : decode cX9_turn 32 = .ok (.aload_n 0, 1) := by decide +kernel
theorem dX9_turn_33 : decode cX9_turn 33 = .ok (.getfield 19, 3) := by decide +kernel
theorem dX9_turn_36 : decode cX9_turn 36 = .ok (.bipush 8, 2) := by decide +kernel
theorem dX9_turn_38 : decode cX9_turn 38 = .ok (.iaload, 1) := by decide +kernel
theorem dX9_turn_39 : decode cX9_turn 39 = .ok (.if_icmp .gt 48, 3) := by decide +kernel
theorem dX9_turn_42 : decode cX9_turn 42 = .ok (.aload_n 0, 1) := by decide +kernel
theorem dX9_turn_43 : decode cX9_turn 43 = .ok (.invokevirtual 203, 3) := by decide +kernel
theorem dX9_turn_46 : decode cX9_turn 46 = .ok (.aload_n 0, 1) := by decide +kernel
theorem dX9_turn_47 : decode cX9_turn 47 = .ok (.getfield 19, 3) := by decide +kernel
theorem dX9_turn_50 : decode cX9_turn 50 = .ok (.bipush 9, 2) := by decide +kernel
theorem dX9_turn_52 : decode cX9_turn 52 = .ok (.iaload, 1) := by decide +kernel
theorem dX9_turn_53 : decode cX9_turn 53 = .ok (.iload_n 3, 1) := by decide +kernel
theorem dX9_turn_54 : decode cX9_turn 54 = .ok (.if_icmp .ge 10, 3) := by decide +kernel
theorem dX9_turn_57 : decode cX9_turn 57 = .ok (.aload_n 0, 1) := by decide +kernel
theorem dX9_turn_58 : decode cX9_turn 58 = .ok (.invokevirtual 190, 3) := by decide +kernel
theorem dX9_turn_61 : decode cX9_turn 61 = .ok (.goto (-15), 3) := by decide +kernel
theorem dX9_turn_64 : decode cX9_turn 64 = .ok (.aload_n 0, 1) := by decide +kernel
theorem dX9_turn_65 : decode cX9_turn 65 = .ok (.invokevirtual 228, 3) := by decide +kernel
theorem dX9_turn_68 : decode cX9_turn 68 = .ok (.ifCond .eq 7, 3) := by decide +kernel
theorem dX9_turn_71 : decode cX9_turn 71 = .ok (.iload_n 3, 1) := by decide +kernel
theorem dX9_turn_72 : decode cX9_turn 72 = .ok (.goto 4, 3) := by decide +kernel
theorem dX9_turn_75 : decode cX9_turn 75 = .ok (.iload_n 1, 1) := by decide +kernel
theorem dX9_turn_76 : decode cX9_turn 76 = .ok (.istore_n 1, 1) := by decide +kernel
theorem dX9_turn_77 : decode cX9_turn 77 = .ok (.aload_n 0, 1) := by decide +kernel
theorem dX9_turn_78 : decode cX9_turn 78 = .ok (.invokevirtual 209, 3) := by decide +kernel
theorem dX9_turn_81 : decode cX9_turn 81 = .ok (.iinc 3 1, 3) := by decide +kernel
theorem dX9_turn_84 : decode cX9_turn 84 = .ok (.goto (-53), 3) := by decide +kernel
theorem dX9_turn_87 : decode cX9_turn 87 = .ok (.iload_n 1, 1) := by decide +kernel
theorem dX9_turn_88 : decode cX9_turn 88 = .ok (.ireturn, 1) := by decide +kernel
theorem dX9_fits_0 : decode cX9_fits 0 = .ok (.aload_n 0, 1) := by decide +kernel
theorem dX9_fits_1 : decode cX9_fits 1 = .ok (.iload_n 1, 1) := by decide +kernel
theorem dX9_fits_2 : decode cX9_fits 2 = .ok (.invokevirtual 197, 3) := by decide +kernel
theorem dX9_fits_5 : decode cX9_fits 5 = .ok (.ifCond .eq 34, 3) := by decide +kernel
theorem dX9_fits_8 : decode cX9_fits 8 = .ok (.iload_n 2, 1) := by decide +kernel
theorem dX9_fits_9 : decode cX9_fits 9 = .ok (.invokestatic 70, 3) := by decide +kernel
theorem dX9_fits_12 : decode cX9_fits 12 = .ok (.ifCond .eq 27, 3) := by decide +kernel
theorem dX9_fits_15 : decode cX9_fits 15 = .ok (.iload 4, 2) := by decide +kernel
theorem dX9_fits_17 : decode cX9_fits 17 = .ok (.i2l, 1) := by decide +kernel
theorem dX9_fits_18 : decode cX9_fits 18 = .ok (.lconst 1, 1) := by decide +kernel
theorem dX9_fits_19 : decode cX9_fits 19 = .ok (.ldc2_w 231, 3) := by decide +kernel
theorem dX9_fits_22 : decode cX9_fits 22 = .ok (.invokestatic 66, 3) := by decide +kernel
theorem dX9_fits_25 : decode cX9_fits 25 = .ok (.ifCond .eq 14, 3) := by decide +kernel
theorem dX9_fits_28 : decode cX9_fits 28 = .ok (.iload 5, 2) := by decide +kernel
theorem dX9_fits_30 : decode cX9_fits 30 = .ok (.i2l, 1) := by decide +kernel
theorem dX9_fits_31 : decode cX9_fits 31 = .ok (.lconst 0, 1) := by decide +kernel
theorem dX9_fits_32 : decode cX9_fits 32 = .ok (.lconst 1, 1) := by decide +kernel
theorem dX9_fits_33 : decode cX9_fits 33 = .ok (.invokestatic 66, 3) := by decide +kernel
theorem dX9_fits_36 : decode cX9_fits 36 = .ok (.ifCond .ne 6, 3) := by decide +kernel
theorem dX9_fits_39 : decode cX9_fits 39 = .ok (.ldc 76, 2) := by decide +kernel
theorem dX9_fits_41 : decode cX9_fits 41 = .ok (.ireturn, 1) := by decide +kernel
theorem dX9_fits_42 : decode cX9_fits 42 = .ok (.iload 4, 2) := by decide +kernel
theorem dX9_fits_44 : decode cX9_fits 44 = .ok (.aload_n 0, 1) := by decide +kernel
theorem dX9_fits_45 : decode cX9_fits 45 = .ok (.getfield 19, 3) := by decide +kernel
theorem dX9_fits_48 : decode cX9_fits 48 = .ok (.bipush 8, 2) := by decide +kernel
theorem dX9_fits_50 : decode cX9_fits 50 = .ok (.iaload, 1) := by decide +kernel
theorem dX9_fits_51 : decode cX9_fits 51 = .ok (.aload_n 0, 1) := by decide +kernel
theorem dX9_fits_52 : decode cX9_fits 52 = .ok (.getfield 19, 3) := by decide +kernel
theorem dX9_fits_55 : decode cX9_fits 55 = .ok (.bipush 9, 2) := by decide +kernel
theorem dX9_fits_57 : decode cX9_fits 57 = .ok (.iaload, 1) := by decide +kernel
theorem dX9_fits_58 : decode cX9_fits 58 = .ok (.isub, 1) := by decide +kernel
theorem dX9_fits_59 : decode cX9_fits 59 = .ok (.if_icmp .le 6, 3) := by decide +kernel
theorem dX9_fits_62 : decode cX9_fits 62 = .ok (.ldc 183, 2) := by decide +kernel
theorem dX9_fits_64 : decode cX9_fits 64 = .ok (.ireturn, 1) := by decide +kernel
theorem dX9_fits_65 : decode cX9_fits 65 = .ok (.aload_n 0, 1) := by decide +kernel
theorem dX9_fits_66 : decode cX9_fits 66 = .ok (.getfield 13, 3) := by decide +kernel
theorem dX9_fits_69 : decode cX9_fits 69 = .ok (.iload_n 2, 1) := by decide +kernel
theorem dX9_fits_70 : decode cX9_fits 70 = .ok (.iaload, 1) := by decide +kernel
theorem dX9_fits_71 : decode cX9_fits 71 = .ok (.ifCond .ge 9, 3) := by decide +kernel
theorem dX9_fits_74 : decode cX9_fits 74 = .ok (.aload_n 0, 1) := by decide +kernel
theorem dX9_fits_75 : decode cX9_fits 75 = .ok (.iconst 1, 1) := by decide +kernel
theorem dX9_fits_76 : decode cX9_fits 76 = .ok (.invokevirtual 77, 3) := by decide +kernel
theorem dX9_fits_79 : decode cX9_fits 79 = .ok (.ireturn, 1) := by decide +kernel
theorem dX9_fits_80 : decode cX9_fits 80 = .ok (.iload_n 3, 1) := by decide +kernel
theorem dX9_fits_81 : decode cX9_fits 81 = .ok (.i2l, 1) := by decide +kernel
theorem dX9_fits_82 : decode cX9_fits 82 = .ok (.lconst 0, 1) := by decide +kernel
theorem dX9_fits_83 : decode cX9_fits 83 = .ok (.aload_n 0, 1) := by decide +kernel
theorem dX9_fits_84 : decode cX9_fits 84 = .ok (.getfield 13, 3) := by decide +kernel
theorem dX9_fits_87 : decode cX9_fits 87 = .ok (.iload_n 2, 1) := by decide +kernel
theorem dX9_fits_88 : decode cX9_fits 88 = .ok (.iaload, 1) := by decide +kernel
theorem dX9_fits_89 : decode cX9_fits 89 = .ok (.iload 4, 2) := by decide +kernel
theorem dX9_fits_91 : decode cX9_fits 91 = .ok (.isub, 1) := by decide +kernel
theorem dX9_fits_92 : decode cX9_fits 92 = .ok (.i2l, 1) := by decide +kernel
theorem dX9_fits_93 : decode cX9_fits 93 = .ok (.invokestatic 66, 3) := by decide +kernel
theorem dX9_fits_96 : decode cX9_fits 96 = .ok (.ifCond .ne 9, 3) := by decide +kernel
theorem dX9_fits_99 : decode cX9_fits 99 = .ok (.aload_n 0, 1) := by decide +kernel
theorem dX9_fits_100 : decode cX9_fits 100 = .ok (.iconst 2, 1) := by decide +kernel
theorem dX9_fits_101 : decode cX9_fits 101 = .ok (.invokevirtual 77, 3) := by decide +kernel
theorem dX9_fits_104 : decode cX9_fits 104 = .ok (.ireturn, 1) := by decide +kernel
theorem dX9_fits_105 : decode cX9_fits 105 = .ok (.iconst 0, 1) := by decide +kernel
theorem dX9_fits_106 : decode cX9_fits 106 = .ok (.istore 6, 2) := by decide +kernel
theorem dX9_fits_108 : decode cX9_fits 108 = .ok (.ldc 200, 2) := by decide +kernel
theorem dX9_fits_110 : decode cX9_fits 110 = .ok (.istore 7, 2) := by decide +kernel
theorem dX9_fits_112 : decode cX9_fits 112 = .ok (.iconst 0, 1) := by decide +kernel
theorem dX9_fits_113 : decode cX9_fits 113 = .ok (.istore 8, 2) := by decide +kernel
theorem dX9_fits_115 : decode cX9_fits 115 = .ok (.iload 8, 2) := by decide +kernel
theorem dX9_fits_117 : decode cX9_fits 117 = .ok (.bipush 93, 2) := by decide +kernel
theorem dX9_fits_119 : decode cX9_fits 119 = .ok (.if_icmp .gt 80, 3) := by decide +kernel
theorem dX9_fits_122 : decode cX9_fits 122 = .ok (.iload 8, 2) := by decide +kernel
theorem dX9_fits_124 : decode cX9_fits 124 = .ok (.bipush 31, 2) := by decide +kernel
theorem dX9_fits_126 : decode cX9_fits 126 = .ok (.if_icmp .ge 8, 3) := by decide +kernel
theorem dX9_fits_129 : decode cX9_fits 129 = .ok (.iload 8, 2) := by decide +kernel
theorem dX9_fits_131 : decode cX9_fits 131 = .ok (.ifCond .ne 62, 3) := by decide +kernel
theorem dX9_fits_134 : decode cX9_fits 134 = .ok (.aload_n 0, 1) := by decide +kernel
theorem dX9_fits_135 : decode cX9_fits 135 = .ok (.iload_n 1, 1) := by decide +kernel
theorem dX9_fits_136 : decode cX9_fits 136 = .ok (.bipush 40, 2) := by decide +kernel
theorem dX9_fits_138 : decode cX9_fits 138 = .ok (.iload_n 2, 1) := by decide +kernel
theorem dX9_fits_139 : decode cX9_fits 139 = .ok (.imul, 1) := by decide +kernel
theorem dX9_fits_140 : decode cX9_fits 140 = .ok (.iload_n 3, 1) := by decide +kernel
theorem dX9_fits_141 : decode cX9_fits 141 = .ok (.iadd, 1) := by decide +kernel
theorem dX9_fits_142 : decode cX9_fits 142 = .ok (.iload 4, 2) := by decide +kernel
theorem dX9_fits_144 : decode cX9_fits 144 = .ok (.iload 8, 2) := by decide +kernel
theorem dX9_fits_146 : decode cX9_fits 146 = .ok (.bipush 31, 2) := by decide +kernel
theorem dX9_fits_148 : decode cX9_fits 148 = .ok (.idiv, 1) := by decide +kernel
theorem dX9_fits_149 : decode cX9_fits 149 = .ok (.iload 8, 2) := by decide +kernel
theorem dX9_fits_151 : decode cX9_fits 151 = .ok (.bipush 31, 2) := by decide +kernel
theorem dX9_fits_153 : decode cX9_fits 153 = .ok (.irem, 1) := by decide +kernel
theorem dX9_fits_154 : decode cX9_fits 154 = .ok (.invokevirtual 233, 3) := by decide +kernel
theorem dX9_fits_157 : decode cX9_fits 157 = .ok (.istore 9, 2) := by decide +kernel
theorem dX9_fits_159 : decode cX9_fits 159 = .ok (.iload 9, 2) := by decide +kernel
theorem dX9_fits_161 : decode cX9_fits 161 = .ok (.ifCond .eq 13, 3) := by decide +kernel
theorem dX9_fits_164 : decode cX9_fits 164 = .ok (.iload 6, 2) := by decide +kernel
theorem dX9_fits_166 : decode cX9_fits 166 = .ok (.ifCond .ne 8, 3) := by decide +kernel
theorem dX9_fits_169 : decode cX9_fits 169 = .ok (.iload 8, 2) := by decide +kernel
theorem dX9_fits_171 : decode cX9_fits 171 = .ok (.goto 5, 3) := by decide +kernel
theorem dX9_fits_174 : decode cX9_fits 174 = .ok (.iload 7, 2) := by decide +kernel
theorem dX9_fits_176 : decode cX9_fits 176 = .ok (.istore 7, 2) := by decide +kernel
theorem dX9_fits_178 : decode cX9_fits 178 = .ok (.iload 6, 2) := by decide +kernel
theorem dX9_fits_180 : decode cX9_fits 180 = .ok (.iload 9, 2) := by decide +kernel
theorem dX9_fits_182 : decode cX9_fits 182 = .ok (.ifCond .eq 7, 3) := by decide +kernel
theorem dX9_fits_185 : decode cX9_fits 185 = .ok (.iconst 1, 1) := by decide +kernel
theorem dX9_fits_186 : decode cX9_fits 186 = .ok (.goto 4, 3) := by decide +kernel
theorem dX9_fits_189 : decode cX9_fits 189 = .ok (.iconst 0, 1) := by decide +kernel
theorem dX9_fits_190 : decode cX9_fits 190 = .ok (.iadd, 1) := by decide +kernel
theorem dX9_fits_191 : decode cX9_fits 191 = .ok (.istore 6, 2) := by decide +kernel
theorem dX9_fits_193 : decode cX9_fits 193 = .ok (.iinc 8 1, 3) := by decide +kernel
theorem dX9_fits_196 : decode cX9_fits 196 = .ok (.goto (-81), 3) := by decide +kernel
theorem dX9_fits_199 : decode cX9_fits 199 = .ok (.aload_n 0, 1) := by decide +kernel
theorem dX9_fits_200 : decode cX9_fits 200 = .ok (.iload 5, 2) := by decide +kernel
theorem dX9_fits_202 : decode cX9_fits 202 = .ok (.ifCond .ne 8, 3) := by decide +kernel
theorem dX9_fits_205 : decode cX9_fits 205 = .ok (.iload 6, 2) := by decide +kernel
theorem dX9_fits_207 : decode cX9_fits 207 = .ok (.goto 5, 3) := by decide +kernel
theorem dX9_fits_210 : decode cX9_fits 210 = .ok (.iload 7, 2) := by decide +kernel
theorem dX9_fits_212 : decode cX9_fits 212 = .ok (.invokevirtual 81, 3) := by decide +kernel
theorem dX9_fits_215 : decode cX9_fits 215 = .ok (.ireturn, 1) := by decide +kernel
theorem dX9_fitsBy_0 : decode cX9_fitsBy 0 = .ok (.aload_n 0, 1) := by decide +kernel
theorem dX9_fitsBy_1 : decode cX9_fitsBy 1 = .ok (.invokevirtual 203, 3) := by decide +kernel
theorem dX9_fitsBy_4 : decode cX9_fitsBy 4 = .ok (.aload_n 0, 1) := by decide +kernel
theorem dX9_fitsBy_5 : decode cX9_fitsBy 5 = .ok (.getfield 19, 3) := by decide +kernel
theorem dX9_fitsBy_8 : decode cX9_fitsBy 8 = .ok (.bipush 10, 2) := by decide +kernel
theorem dX9_fitsBy_10 : decode cX9_fitsBy 10 = .ok (.iload 4, 2) := by decide +kernel
theorem dX9_fitsBy_12 : decode cX9_fitsBy 12 = .ok (.iastore, 1) := by decide +kernel
theorem dX9_fitsBy_13 : decode cX9_fitsBy 13 = .ok (.aload_n 0, 1) := by decide +kernel
theorem dX9_fitsBy_14 : decode cX9_fitsBy 14 = .ok (.getfield 19, 3) := by decide +kernel
theorem dX9_fitsBy_17 : decode cX9_fitsBy 17 = .ok (.bipush 11, 2) := by decide +kernel
theorem dX9_fitsBy_19 : decode cX9_fitsBy 19 = .ok (.iload 5, 2) := by decide +kernel
theorem dX9_fitsBy_21 : decode cX9_fitsBy 21 = .ok (.iastore, 1) := by decide +kernel
theorem dX9_fitsBy_22 : decode cX9_fitsBy 22 = .ok (.aload_n 0, 1) := by decide +kernel
theorem dX9_fitsBy_23 : decode cX9_fitsBy 23 = .ok (.aload_n 0, 1) := by decide +kernel
theorem dX9_fitsBy_24 : decode cX9_fitsBy 24 = .ok (.invokevirtual 187, 3) := by decide +kernel
theorem dX9_fitsBy_27 : decode cX9_fitsBy 27 = .ok (.putfield 161, 3) := by decide +kernel
theorem dX9_fitsBy_30 : decode cX9_fitsBy 30 = .ok (.iconst 1, 1) := by decide +kernel
theorem dX9_fitsBy_31 : decode cX9_fitsBy 31 = .ok (.istore 6, 2) := by decide +kernel
theorem dX9_fitsBy_33 : decode cX9_fitsBy 33 = .ok (.iconst 0, 1) := by decide +kernel
theorem dX9_fitsBy_34 : decode cX9_fitsBy 34 = .ok (.istore 7, 2) := by decide +kernel
theorem dX9_fitsBy_36 : decode cX9_fitsBy 36 = .ok (.iload 7, 2) := by decide +kernel
theorem dX9_fitsBy_38 : decode cX9_fitsBy 38 = .ok (.iload_n 3, 1) := by decide +kernel
theorem dX9_fitsBy_39 : decode cX9_fitsBy 39 = .ok (.if_icmp .ge 63, 3) := by decide +kernel
theorem dX9_fitsBy_42 : decode cX9_fitsBy 42 = .ok (.aload_n 0, 1) := by decide +kernel
theorem dX9_fitsBy_43 : decode cX9_fitsBy 43 = .ok (.getfield 19, 3) := by decide +kernel
theorem dX9_fitsBy_46 : decode cX9_fitsBy 46 = .ok (.bipush 38, 2) := by decide +kernel
theorem dX9_fitsBy_48 : decode cX9_fitsBy 48 = .ok (.iload_n 1, 1) := by decide +kernel
theorem dX9_fitsBy_49 : decode cX9_fitsBy 49 = .ok (.iadd, 1) := by decide +kernel
theorem dX9_fitsBy_50 : decode cX9_fitsBy 50 = .ok (.iaload, 1) := by decide +kernel
theorem dX9_fitsBy_51 : decode cX9_fitsBy 51 = .ok (.aload_n 0, 1) := by decide +kernel
theorem dX9_fitsBy_52 : decode cX9_fitsBy 52 = .ok (.iload_n 1, 1) := by decide +kernel
theorem dX9_fitsBy_53 : decode cX9_fitsBy 53 = .ok (.aload_n 0, 1) := by decide +kernel
theorem dX9_fitsBy_54 : decode cX9_fitsBy 54 = .ok (.getfield 19, 3) := by decide +kernel
theorem dX9_fitsBy_57 : decode cX9_fitsBy 57 = .ok (.bipush 9, 2) := by decide +kernel
theorem dX9_fitsBy_59 : decode cX9_fitsBy 59 = .ok (.iaload, 1) := by decide +kernel
theorem dX9_fitsBy_60 : decode cX9_fitsBy 60 = .ok (.invokevirtual 170, 3) := by decide +kernel
theorem dX9_fitsBy_63 : decode cX9_fitsBy 63 = .ok (.iadd, 1) := by decide +kernel
theorem dX9_fitsBy_64 : decode cX9_fitsBy 64 = .ok (.istore 8, 2) := by decide +kernel
theorem dX9_fitsBy_66 : decode cX9_fitsBy 66 = .ok (.iload 6, 2) := by decide +kernel
theorem dX9_fitsBy_68 : decode cX9_fitsBy 68 = .ok (.ifCond .eq 21, 3) := by decide +kernel
theorem dX9_fitsBy_71 : decode cX9_fitsBy 71 = .ok (.iload 8, 2) := by decide +kernel
theorem dX9_fitsBy_73 : decode cX9_fitsBy 73 = .ok (.aload_n 0, 1) := by decide +kernel
theorem dX9_fitsBy_74 : decode cX9_fitsBy 74 = .ok (.getfield 16, 3) := by decide +kernel
theorem dX9_fitsBy_77 : decode cX9_fitsBy 77 = .ok (.iload_n 2, 1) := by decide +kernel
theorem dX9_fitsBy_78 : decode cX9_fitsBy 78 = .ok (.iload 7, 2) := by decide +kernel
theorem dX9_fitsBy_80 : decode cX9_fitsBy 80 = .ok (.iadd, 1) := by decide +kernel
theorem dX9_fitsBy_81 : decode cX9_fitsBy 81 = .ok (.iaload, 1) := by decide +kernel
theorem dX9_fitsBy_82 : decode cX9_fitsBy 82 = .ok (.if_icmp .ne 7, 3) := by decide +kernel
theorem dX9_fitsBy_85 : decode cX9_fitsBy 85 = .ok (.iconst 1, 1) := by decide +kernel
theorem dX9_fitsBy_86 : decode cX9_fitsBy 86 = .ok (.goto 4, 3) := by decide +kernel
theorem dX9_fitsBy_89 : decode cX9_fitsBy 89 = .ok (.iconst 0, 1) := by decide +kernel
theorem dX9_fitsBy_90 : decode cX9_fitsBy 90 = .ok (.istore 6, 2) := by decide +kernel
theorem dX9_fitsBy_92 : decode cX9_fitsBy 92 = .ok (.aload_n 0, 1) := by decide +kernel
theorem dX9_fitsBy_93 : decode cX9_fitsBy 93 = .ok (.invokevirtual 190, 3) := by decide +kernel
theorem dX9_fitsBy_96 : decode cX9_fitsBy 96 = .ok (.iinc 7 1, 3) := by decide +kernel
theorem dX9_fitsBy_99 : decode cX9_fitsBy 99 = .ok (.goto (-63), 3) := by decide +kernel
theorem dX9_fitsBy_102 : decode cX9_fitsBy 102 = .ok (.aload_n 0, 1) := by decide +kernel
theorem dX9_fitsBy_103 : decode cX9_fitsBy 103 = .ok (.invokevirtual 209, 3) := by decide +kernel
theorem dX9_fitsBy_106 : decode cX9_fitsBy 106 = .ok (.iload 6, 2) := by decide +kernel
theorem dX9_fitsBy_108 : decode cX9_fitsBy 108 = .ok (.ireturn, 1) := by decide +kernel
theorem dX9_image_0 : decode cX9_image 0 = .ok (.iload_n 1, 1) := by decide +kernel
theorem dX9_image_1 : decode cX9_image 1 = .ok (.i2l, 1) := by decide +kernel
theorem dX9_image_2 : decode cX9_image 2 = .ok (.lconst 0, 1) := by decide +kernel
theorem dX9_image_3 : decode cX9_image 3 = .ok (.lconst 1, 1) := by decide +kernel
theorem dX9_image_4 : decode cX9_image 4 = .ok (.invokestatic 66, 3) := by decide +kernel
theorem dX9_image_7 : decode cX9_image 7 = .ok (.ifCond .ne 6, 3) := by decide +kernel
theorem dX9_image_10 : decode cX9_image 10 = .ok (.ldc 76, 2) := by decide +kernel
theorem dX9_image_12 : decode cX9_image 12 = .ok (.ireturn, 1) := by decide +kernel
theorem dX9_image_13 : decode cX9_image 13 = .ok (.aload_n 0, 1) := by decide +kernel
theorem dX9_image_14 : decode cX9_image 14 = .ok (.getfield 154, 3) := by decide +kernel
theorem dX9_image_17 : decode cX9_image 17 = .ok (.ifCond .ne 6, 3) := by decide +kernel
theorem dX9_image_20 : decode cX9_image 20 = .ok (.ldc 183, 2) := by decide +kernel
theorem dX9_image_22 : decode cX9_image 22 = .ok (.ireturn, 1) := by decide +kernel
theorem dX9_image_23 : decode cX9_image 23 = .ok (.iconst 0, 1) := by decide +kernel
theorem dX9_image_24 : decode cX9_image 24 = .ok (.istore_n 2, 1) := by decide +kernel
theorem dX9_image_25 : decode cX9_image 25 = .ok (.iload_n 2, 1) := by decide +kernel
theorem dX9_image_26 : decode cX9_image 26 = .ok (.bipush 56, 2) := by decide +kernel
theorem dX9_image_28 : decode cX9_image 28 = .ok (.if_icmp .ge 26, 3) := by decide +kernel
theorem dX9_image_31 : decode cX9_image 31 = .ok (.aload_n 0, 1) := by decide +kernel
theorem dX9_image_32 : decode cX9_image 32 = .ok (.getfield 53, 3) := by decide +kernel
theorem dX9_image_35 : decode cX9_image 35 = .ok (.bipush 56, 2) := by decide +kernel
theorem dX9_image_37 : decode cX9_image 37 = .ok (.iload_n 1, 1) := by decide +kernel
theorem dX9_image_38 : decode cX9_image 38 = .ok (.imul, 1) := by decide +kernel
theorem dX9_image_39 : decode cX9_image 39 = .ok (.iload_n 2, 1) := by decide +kernel
theorem dX9_image_40 : decode cX9_image 40 = .ok (.iadd, 1) := by decide +kernel
theorem dX9_image_41 : decode cX9_image 41 = .ok (.aload_n 0, 1) := by decide +kernel
theorem dX9_image_42 : decode cX9_image 42 = .ok (.getfield 19, 3) := by decide +kernel
theorem dX9_image_45 : decode cX9_image 45 = .ok (.iload_n 2, 1) := by decide +kernel
theorem dX9_image_46 : decode cX9_image 46 = .ok (.iaload, 1) := by decide +kernel
theorem dX9_image_47 : decode cX9_image 47 = .ok (.iastore, 1) := by decide +kernel
theorem dX9_image_48 : decode cX9_image 48 = .ok (.iinc 2 1, 3) := by decide +kernel
theorem dX9_image_51 : decode cX9_image 51 = .ok (.goto (-26), 3) := by decide +kernel
theorem dX9_image_54 : decode cX9_image 54 = .ok (.aload_n 0, 1) := by decide +kernel
theorem dX9_image_55 : decode cX9_image 55 = .ok (.getfield 49, 3) := by decide +kernel
theorem dX9_image_58 : decode cX9_image 58 = .ok (.iload_n 1, 1) := by decide +kernel
theorem dX9_image_59 : decode cX9_image 59 = .ok (.iconst 1, 1) := by decide +kernel
theorem dX9_image_60 : decode cX9_image 60 = .ok (.bastore, 1) := by decide +kernel
theorem dX9_image_61 : decode cX9_image 61 = .ok (.iconst 1, 1) := by decide +kernel
theorem dX9_image_62 : decode cX9_image 62 = .ok (.ireturn, 1) := by decide +kernel
theorem dX9_restore_0 : decode cX9_restore 0 = .ok (.iload_n 1, 1) := by decide +kernel
theorem dX9_restore_1 : decode cX9_restore 1 = .ok (.i2l, 1) := by decide +kernel
theorem dX9_restore_2 : decode cX9_restore 2 = .ok (.lconst 0, 1) := by decide +kernel
theorem dX9_restore_3 : decode cX9_restore 3 = .ok (.lconst 1, 1) := by decide +kernel
theorem dX9_restore_4 : decode cX9_restore 4 = .ok (.invokestatic 66, 3) := by decide +kernel
theorem dX9_restore_7 : decode cX9_restore 7 = .ok (.ifCond .ne 6, 3) := by decide +kernel
theorem dX9_restore_10 : decode cX9_restore 10 = .ok (.ldc 76, 2) := by decide +kernel
theorem dX9_restore_12 : decode cX9_restore 12 = .ok (.ireturn, 1) := by decide +kernel
theorem dX9_restore_13 : decode cX9_restore 13 = .ok (.aload_n 0, 1) := by decide +kernel
theorem dX9_restore_14 : decode cX9_restore 14 = .ok (.getfield 49, 3) := by decide +kernel
theorem dX9_restore_17 : decode cX9_restore 17 = .ok (.iload_n 1, 1) := by decide +kernel
theorem dX9_restore_18 : decode cX9_restore 18 = .ok (.baload, 1) := by decide +kernel
theorem dX9_restore_19 : decode cX9_restore 19 = .ok (.ifCond .ne 6, 3) := by decide +kernel
theorem dX9_restore_22 : decode cX9_restore 22 = .ok (.ldc 183, 2) := by decide +kernel
theorem dX9_restore_24 : decode cX9_restore 24 = .ok (.ireturn, 1) := by decide +kernel
theorem dX9_restore_25 : decode cX9_restore 25 = .ok (.iconst 0, 1) := by decide +kernel
theorem dX9_restore_26 : decode cX9_restore 26 = .ok (.istore_n 2, 1) := by decide +kernel
theorem dX9_restore_27 : decode cX9_restore 27 = .ok (.iload_n 2, 1) := by decide +kernel
theorem dX9_restore_28 : decode cX9_restore 28 = .ok (.bipush 56, 2) := by decide +kernel
theorem dX9_restore_30 : decode cX9_restore 30 = .ok (.if_icmp .ge 26, 3) := by decide +kernel
theorem dX9_restore_33 : decode cX9_restore 33 = .ok (.aload_n 0, 1) := by decide +kernel
theorem dX9_restore_34 : decode cX9_restore 34 = .ok (.getfield 19, 3) := by decide +kernel
theorem dX9_restore_37 : decode cX9_restore 37 = .ok (.iload_n 2, 1) := by decide +kernel
theorem dX9_restore_38 : decode cX9_restore 38 = .ok (.aload_n 0, 1) := by decide +kernel
theorem dX9_restore_39 : decode cX9_restore 39 = .ok (.getfield 53, 3) := by decide +kernel
theorem dX9_restore_42 : decode cX9_restore 42 = .ok (.bipush 56, 2) := by decide +kernel
theorem dX9_restore_44 : decode cX9_restore 44 = .ok (.iload_n 1, 1) := by decide +kernel
theorem dX9_restore_45 : decode cX9_restore 45 = .ok (.imul, 1) := by decide +kernel
theorem dX9_restore_46 : decode cX9_restore 46 = .ok (.iload_n 2, 1) := by decide +kernel
theorem dX9_restore_47 : decode cX9_restore 47 = .ok (.iadd, 1) := by decide +kernel
theorem dX9_restore_48 : decode cX9_restore 48 = .ok (.iaload, 1) := by decide +kernel
theorem dX9_restore_49 : decode cX9_restore 49 = .ok (.iastore, 1) := by decide +kernel
theorem dX9_restore_50 : decode cX9_restore 50 = .ok (.iinc 2 1, 3) := by decide +kernel
theorem dX9_restore_53 : decode cX9_restore 53 = .ok (.goto (-26), 3) := by decide +kernel
theorem dX9_restore_56 : decode cX9_restore 56 = .ok (.aload_n 0, 1) := by decide +kernel
theorem dX9_restore_57 : decode cX9_restore 57 = .ok (.iconst 0, 1) := by decide +kernel
theorem dX9_restore_58 : decode cX9_restore 58 = .ok (.putfield 158, 3) := by decide +kernel
theorem dX9_restore_61 : decode cX9_restore 61 = .ok (.iconst 1, 1) := by decide +kernel
theorem dX9_restore_62 : decode cX9_restore 62 = .ok (.ireturn, 1) := by decide +kernel
theorem dX9_kind_0 : decode cX9_kind 0 = .ok (.aload_n 0, 1) := by decide +kernel
theorem dX9_kind_1 : decode cX9_kind 1 = .ok (.iload_n 1, 1) := by decide +kernel
theorem dX9_kind_2 : decode cX9_kind 2 = .ok (.invokevirtual 197, 3) := by decide +kernel
theorem dX9_kind_5 : decode cX9_kind 5 = .ok (.ifCond .eq 15, 3) := by decide +kernel
theorem dX9_kind_8 : decode cX9_kind 8 = .ok (.aload_n 0, 1) := by decide +kernel
theorem dX9_kind_9 : decode cX9_kind 9 = .ok (.getfield 19, 3) := by decide +kernel
theorem dX9_kind_12 : decode cX9_kind 12 = .ok (.bipush 14, 2) := by decide +kernel
theorem dX9_kind_14 : decode cX9_kind 14 = .ok (.iload_n 1, 1) := by decide +kernel
theorem dX9_kind_15 : decode cX9_kind 15 = .ok (.iadd, 1) := by decide +kernel
theorem dX9_kind_16 : decode cX9_kind 16 = .ok (.iaload, 1) := by decide +kernel
theorem dX9_kind_17 : decode cX9_kind 17 = .ok (.goto 5, 3) := by decide +kernel
theorem dX9_kind_20 : decode cX9_kind 20 = .ok (.ldc 76, 2) := by decide +kernel
theorem dX9_kind_22 : decode cX9_kind 22 = .ok (.ireturn, 1) := by decide +kernel
theorem dX9_isKind_0 : decode cX9_isKind 0 = .ok (.iload_n 1, 1) := by decide +kernel
theorem dX9_isKind_1 : decode cX9_isKind 1 = .ok (.ifCond .eq 28, 3) := by decide +kernel
theorem dX9_isKind_4 : decode cX9_isKind 4 = .ok (.iload_n 0, 1) := by decide +kernel
theorem dX9_isKind_5 : decode cX9_isKind 5 = .ok (.iload_n 1, 1) := by decide +kernel
theorem dX9_isKind_6 : decode cX9_isKind 6 = .ok (.if_icmp .eq 23, 3) := by decide +kernel
theorem dX9_isKind_9 : decode cX9_isKind 9 = .ok (.iload_n 1, 1) := by decide +kernel
theorem dX9_isKind_10 : decode cX9_isKind 10 = .ok (.iconst 1, 1) := by decide +kernel
theorem dX9_isKind_11 : decode cX9_isKind 11 = .ok (.if_icmp .ne 8, 3) := by decide +kernel
theorem dX9_isKind_14 : decode cX9_isKind 14 = .ok (.iload_n 0, 1) := by decide +kernel
theorem dX9_isKind_15 : decode cX9_isKind 15 = .ok (.iconst 4, 1) := by decide +kernel
theorem dX9_isKind_16 : decode cX9_isKind 16 = .ok (.if_icmp .lt 13, 3) := by decide +kernel
theorem dX9_isKind_19 : decode cX9_isKind 19 = .ok (.iload_n 1, 1) := by decide +kernel
theorem dX9_isKind_20 : decode cX9_isKind 20 = .ok (.iconst 4, 1) := by decide +kernel
theorem dX9_isKind_21 : decode cX9_isKind 21 = .ok (.if_icmp .ne 12, 3) := by decide +kernel
theorem dX9_isKind_24 : decode cX9_isKind 24 = .ok (.iload_n 0, 1) := by decide +kernel
theorem dX9_isKind_25 : decode cX9_isKind 25 = .ok (.iconst 5, 1) := by decide +kernel
theorem dX9_isKind_26 : decode cX9_isKind 26 = .ok (.if_icmp .ne 7, 3) := by decide +kernel
theorem dX9_isKind_29 : decode cX9_isKind 29 = .ok (.iconst 1, 1) := by decide +kernel
theorem dX9_isKind_30 : decode cX9_isKind 30 = .ok (.goto 4, 3) := by decide +kernel
theorem dX9_isKind_33 : decode cX9_isKind 33 = .ok (.iconst 0, 1) := by decide +kernel
theorem dX9_isKind_34 : decode cX9_isKind 34 = .ok (.ireturn, 1) := by decide +kernel
theorem dX9_as_0 : decode cX9_as 0 = .ok (.aload_n 0, 1) := by decide +kernel
theorem dX9_as_1 : decode cX9_as 1 = .ok (.iload_n 1, 1) := by decide +kernel
theorem dX9_as_2 : decode cX9_as 2 = .ok (.invokevirtual 197, 3) := by decide +kernel
theorem dX9_as_5 : decode cX9_as 5 = .ok (.ifCond .eq 15, 3) := by decide +kernel
theorem dX9_as_8 : decode cX9_as 8 = .ok (.iload_n 2, 1) := by decide +kernel
theorem dX9_as_9 : decode cX9_as 9 = .ok (.i2l, 1) := by decide +kernel
theorem dX9_as_10 : decode cX9_as 10 = .ok (.lconst 0, 1) := by decide +kernel
theorem dX9_as_11 : decode cX9_as 11 = .ok (.ldc2_w 237, 3) := by decide +kernel
theorem dX9_as_14 : decode cX9_as 14 = .ok (.invokestatic 66, 3) := by decide +kernel
theorem dX9_as_17 : decode cX9_as 17 = .ok (.ifCond .ne 6, 3) := by decide +kernel
theorem dX9_as_20 : decode cX9_as 20 = .ok (.ldc 76, 2) := by decide +kernel
theorem dX9_as_22 : decode cX9_as 22 = .ok (.ireturn, 1) := by decide +kernel
theorem dX9_as_23 : decode cX9_as 23 = .ok (.aload_n 0, 1) := by decide +kernel
theorem dX9_as_24 : decode cX9_as 24 = .ok (.getfield 19, 3) := by decide +kernel
theorem dX9_as_27 : decode cX9_as 27 = .ok (.bipush 14, 2) := by decide +kernel
theorem dX9_as_29 : decode cX9_as 29 = .ok (.iload_n 1, 1) := by decide +kernel
theorem dX9_as_30 : decode cX9_as 30 = .ok (.iadd, 1) := by decide +kernel
theorem dX9_as_31 : decode cX9_as 31 = .ok (.iaload, 1) := by decide +kernel
theorem dX9_as_32 : decode cX9_as 32 = .ok (.iload_n 2, 1) := by decide +kernel
theorem dX9_as_33 : decode cX9_as 33 = .ok (.invokestatic 239, 3) := by decide +kernel
theorem dX9_as_36 : decode cX9_as 36 = .ok (.ifCond .eq 11, 3) := by decide +kernel
theorem dX9_as_39 : decode cX9_as 39 = .ok (.aload_n 0, 1) := by decide +kernel
theorem dX9_as_40 : decode cX9_as 40 = .ok (.iload_n 1, 1) := by decide +kernel
theorem dX9_as_41 : decode cX9_as 41 = .ok (.invokevirtual 81, 3) := by decide +kernel
theorem dX9_as_44 : decode cX9_as 44 = .ok (.goto 8, 3) := by decide +kernel
theorem dX9_as_47 : decode cX9_as 47 = .ok (.aload_n 0, 1) := by decide +kernel
theorem dX9_as_48 : decode cX9_as 48 = .ok (.iconst 3, 1) := by decide +kernel
theorem dX9_as_49 : decode cX9_as 49 = .ok (.invokevirtual 77, 3) := by decide +kernel
theorem dX9_as_52 : decode cX9_as 52 = .ok (.ireturn, 1) := by decide +kernel
theorem dX9_begin_0 : decode cX9_begin 0 = .ok (.aload_n 0, 1) := by decide +kernel
theorem dX9_begin_1 : decode cX9_begin 1 = .ok (.getfield 242, 3) := by decide +kernel
theorem dX9_begin_4 : decode cX9_begin 4 = .ok (.bipush 16, 2) := by decide +kernel
theorem dX9_begin_6 : decode cX9_begin 6 = .ok (.if_icmp .ge 23, 3) := by decide +kernel
theorem dX9_begin_9 : decode cX9_begin 9 = .ok (.aload_n 0, 1) := by decide +kernel
theorem dX9_begin_10 : decode cX9_begin 10 = .ok (.getfield 56, 3) := by decide +kernel
theorem dX9_begin_13 : decode cX9_begin 13 = .ok (.aload_n 0, 1) := by decide +kernel
theorem dX9_begin_14 : decode cX9_begin 14 = .ok (.getfield 242, 3) := by decide +kernel
theorem dX9_begin_17 : decode cX9_begin 17 = .ok (.iload_n 1, 1) := by decide +kernel
theorem dX9_begin_18 : decode cX9_begin 18 = .ok (.iastore, 1) := by decide +kernel
theorem dX9_begin_19 : decode cX9_begin 19 = .ok (.aload_n 0, 1) := by decide +kernel
theorem dX9_begin_20 : decode cX9_begin 20 = .ok (.dup, 1) := by decide +kernel
theorem dX9_begin_21 : decode cX9_begin 21 = .ok (.getfield 242, 3) := by decide +kernel
theorem dX9_begin_24 : decode cX9_begin 24 = .ok (.iconst 1, 1) := by decide +kernel
theorem dX9_begin_25 : decode cX9_begin 25 = .ok (.iadd, 1) := by decide +kernel
theorem dX9_begin_26 : decode cX9_begin 26 = .ok (.putfield 242, 3) := by decide +kernel
theorem dX9_begin_29 : decode cX9_begin 29 = .ok (.return_, 1) := by decide +kernel
theorem dX9_lent_0 : decode cX9_lent 0 = .ok (.aload_n 0, 1) := by decide +kernel
theorem dX9_lent_1 : decode cX9_lent 1 = .ok (.iload_n 2, 1) := by decide +kernel
theorem dX9_lent_2 : decode cX9_lent 2 = .ok (.invokevirtual 245, 3) := by decide +kernel
theorem dX9_lent_5 : decode cX9_lent 5 = .ok (.iload_n 2, 1) := by decide +kernel
theorem dX9_lent_6 : decode cX9_lent 6 = .ok (.bipush 10, 2) := by decide +kernel
theorem dX9_lent_8 : decode cX9_lent 8 = .ok (.if_icmp .ne 15, 3) := by decide +kernel
theorem dX9_lent_11 : decode cX9_lent 11 = .ok (.aload_n 0, 1) := by decide +kernel
theorem dX9_lent_12 : decode cX9_lent 12 = .ok (.getfield 19, 3) := by decide +kernel
theorem dX9_lent_15 : decode cX9_lent 15 = .ok (.bipush 20, 2) := by decide +kernel
theorem dX9_lent_17 : decode cX9_lent 17 = .ok (.iload_n 1, 1) := by decide +kernel
theorem dX9_lent_18 : decode cX9_lent 18 = .ok (.iadd, 1) := by decide +kernel
theorem dX9_lent_19 : decode cX9_lent 19 = .ok (.iaload, 1) := by decide +kernel
theorem dX9_lent_20 : decode cX9_lent 20 = .ok (.goto 4, 3) := by decide +kernel
theorem dX9_lent_23 : decode cX9_lent 23 = .ok (.iload_n 1, 1) := by decide +kernel
theorem dX9_lent_24 : decode cX9_lent 24 = .ok (.ireturn, 1) := by decide +kernel
theorem dX9_steadyMark_0 : decode cX9_steadyMark 0 = .ok (.aload_n 0, 1) := by decide +kernel
theorem dX9_steadyMark_1 : decode cX9_steadyMark 1 = .ok (.bipush 21, 2) := by decide +kernel
theorem dX9_steadyMark_3 : decode cX9_steadyMark 3 = .ok (.invokevirtual 245, 3) := by decide +kernel
theorem dX9_steadyMark_6 : decode cX9_steadyMark 6 = .ok (.aload_n 0, 1) := by decide +kernel
theorem dX9_steadyMark_7 : decode cX9_steadyMark 7 = .ok (.iload_n 1, 1) := by decide +kernel
theorem dX9_steadyMark_8 : decode cX9_steadyMark 8 = .ok (.bipush 20, 2) := by decide +kernel
theorem dX9_steadyMark_10 : decode cX9_steadyMark 10 = .ok (.invokevirtual 248, 3) := by decide +kernel
theorem dX9_steadyMark_13 : decode cX9_steadyMark 13 = .ok (.aload_n 0, 1) := by decide +kernel
theorem dX9_steadyMark_14 : decode cX9_steadyMark 14 = .ok (.getfield 19, 3) := by decide +kernel
theorem dX9_steadyMark_17 : decode cX9_steadyMark 17 = .ok (.bipush 32, 2) := by decide +kernel
theorem dX9_steadyMark_19 : decode cX9_steadyMark 19 = .ok (.iload_n 1, 1) := by decide +kernel
theorem dX9_steadyMark_20 : decode cX9_steadyMark 20 = .ok (.iadd, 1) := by decide +kernel
theorem dX9_steadyMark_21 : decode cX9_steadyMark 21 = .ok (.iaload, 1) := by decide +kernel
theorem dX9_steadyMark_22 : decode cX9_steadyMark 22 = .ok (.iadd, 1) := by decide +kernel
theorem dX9_steadyMark_23 : decode cX9_steadyMark 23 = .ok (.ireturn, 1) := by decide +kernel
theorem dX9_oldSize_0 : decode cX9_oldSize 0 = .ok (.aload_n 0, 1) := by decide +kernel
theorem dX9_oldSize_1 : decode cX9_oldSize 1 = .ok (.bipush 13, 2) := by decide +kernel
theorem dX9_oldSize_3 : decode cX9_oldSize 3 = .ok (.invokevirtual 245, 3) := by decide +kernel
theorem dX9_oldSize_6 : decode cX9_oldSize 6 = .ok (.aload_n 0, 1) := by decide +kernel
theorem dX9_oldSize_7 : decode cX9_oldSize 7 = .ok (.iload_n 1, 1) := by decide +kernel
theorem dX9_oldSize_8 : decode cX9_oldSize 8 = .ok (.bipush 10, 2) := by decide +kernel
theorem dX9_oldSize_10 : decode cX9_oldSize 10 = .ok (.invokevirtual 248, 3) := by decide +kernel
theorem dX9_oldSize_13 : decode cX9_oldSize 13 = .ok (.bipush 100, 2) := by decide +kernel
theorem dX9_oldSize_15 : decode cX9_oldSize 15 = .ok (.isub, 1) := by decide +kernel
theorem dX9_oldSize_16 : decode cX9_oldSize 16 = .ok (.ireturn, 1) := by decide +kernel
theorem dX9_sizeOfOld_0 : decode cX9_sizeOfOld 0 = .ok (.aload_n 0, 1) := by decide +kernel
theorem dX9_sizeOfOld_1 : decode cX9_sizeOfOld 1 = .ok (.getfield 19, 3) := by decide +kernel
theorem dX9_sizeOfOld_4 : decode cX9_sizeOfOld 4 = .ok (.bipush 14, 2) := by decide +kernel
theorem dX9_sizeOfOld_6 : decode cX9_sizeOfOld 6 = .ok (.iload_n 1, 1) := by decide +kernel
theorem dX9_sizeOfOld_7 : decode cX9_sizeOfOld 7 = .ok (.iadd, 1) := by decide +kernel
theorem dX9_sizeOfOld_8 : decode cX9_sizeOfOld 8 = .ok (.iaload, 1) := by decide +kernel
theorem dX9_sizeOfOld_9 : decode cX9_sizeOfOld 9 = .ok (.iconst 5, 1) := by decide +kernel
theorem dX9_sizeOfOld_10 : decode cX9_sizeOfOld 10 = .ok (.if_icmp .ne 17, 3) := by decide +kernel
theorem dX9_sizeOfOld_13 : decode cX9_sizeOfOld 13 = .ok (.aload_n 0, 1) := by decide +kernel
theorem dX9_sizeOfOld_14 : decode cX9_sizeOfOld 14 = .ok (.bipush 14, 2) := by decide +kernel
theorem dX9_sizeOfOld_16 : decode cX9_sizeOfOld 16 = .ok (.invokevirtual 245, 3) := by decide +kernel
theorem dX9_sizeOfOld_19 : decode cX9_sizeOfOld 19 = .ok (.iconst 2, 1) := by decide +kernel
theorem dX9_sizeOfOld_20 : decode cX9_sizeOfOld 20 = .ok (.aload_n 0, 1) := by decide +kernel
theorem dX9_sizeOfOld_21 : decode cX9_sizeOfOld 21 = .ok (.iload_n 1, 1) := by decide +kernel
theorem dX9_sizeOfOld_22 : decode cX9_sizeOfOld 22 = .ok (.invokevirtual 251, 3) := by decide +kernel
theorem dX9_sizeOfOld_25 : decode cX9_sizeOfOld 25 = .ok (.imul, 1) := by decide +kernel
theorem dX9_sizeOfOld_26 : decode cX9_sizeOfOld 26 = .ok (.ireturn, 1) := by decide +kernel
theorem dX9_sizeOfOld_27 : decode cX9_sizeOfOld 27 = .ok (.aload_n 0, 1) := by decide +kernel
theorem dX9_sizeOfOld_28 : decode cX9_sizeOfOld 28 = .ok (.iload_n 1, 1) := by decide +kernel
theorem dX9_sizeOfOld_29 : decode cX9_sizeOfOld 29 = .ok (.invokevirtual 251, 3) := by decide +kernel
theorem dX9_sizeOfOld_32 : decode cX9_sizeOfOld 32 = .ok (.ireturn, 1) := by decide +kernel
theorem dX9_markOf_0 : decode cX9_markOf 0 = .ok (.aload_n 0, 1) := by decide +kernel
theorem dX9_markOf_1 : decode cX9_markOf 1 = .ok (.getfield 19, 3) := by decide +kernel
theorem dX9_markOf_4 : decode cX9_markOf 4 = .ok (.bipush 14, 2) := by decide +kernel
theorem dX9_markOf_6 : decode cX9_markOf 6 = .ok (.iload_n 1, 1) := by decide +kernel
theorem dX9_markOf_7 : decode cX9_markOf 7 = .ok (.iadd, 1) := by decide +kernel
theorem dX9_markOf_8 : decode cX9_markOf 8 = .ok (.iaload, 1) := by decide +kernel
theorem dX9_markOf_9 : decode cX9_markOf 9 = .ok (.istore_n 2, 1) := by decide +kernel
theorem dX9_markOf_10 : decode cX9_markOf 10 = .ok (.iload_n 2, 1) := by decide +kernel
theorem dX9_markOf_11 : decode cX9_markOf 11 = .ok (.iconst 2, 1) := by decide +kernel
theorem dX9_markOf_12 : decode cX9_markOf 12 = .ok (.if_icmp .ne 17, 3) := by decide +kernel
theorem dX9_markOf_15 : decode cX9_markOf 15 = .ok (.aload_n 0, 1) := by decide +kernel
theorem dX9_markOf_16 : decode cX9_markOf 16 = .ok (.bipush 24, 2) := by decide +kernel
theorem dX9_markOf_18 : decode cX9_markOf 18 = .ok (.invokevirtual 245, 3) := by decide +kernel
theorem dX9_markOf_21 : decode cX9_markOf 21 = .ok (.iconst 2, 1) := by decide +kernel
theorem dX9_markOf_22 : decode cX9_markOf 22 = .ok (.aload_n 0, 1) := by decide +kernel
theorem dX9_markOf_23 : decode cX9_markOf 23 = .ok (.iload_n 1, 1) := by decide +kernel
theorem dX9_markOf_24 : decode cX9_markOf 24 = .ok (.invokevirtual 254, 3) := by decide +kernel
theorem dX9_markOf_27 : decode cX9_markOf 27 = .ok (.imul, 1) := by decide +kernel
theorem dX9_markOf_28 : decode cX9_markOf 28 = .ok (.ireturn, 1) := by decide +kernel
theorem dX9_markOf_29 : decode cX9_markOf 29 = .ok (.iload_n 2, 1) := by decide +kernel
theorem dX9_markOf_30 : decode cX9_markOf 30 = .ok (.iconst 3, 1) := by decide +kernel
theorem dX9_markOf_31 : decode cX9_markOf 31 = .ok (.if_icmp .ne 19, 3) := by decide +kernel
theorem dX9_markOf_34 : decode cX9_markOf 34 = .ok (.aload_n 0, 1) := by decide +kernel
theorem dX9_markOf_35 : decode cX9_markOf 35 = .ok (.bipush 22, 2) := by decide +kernel
theorem dX9_markOf_37 : decode cX9_markOf 37 = .ok (.invokevirtual 245, 3) := by decide +kernel
theorem dX9_markOf_40 : decode cX9_markOf 40 = .ok (.aload_n 0, 1) := by decide +kernel
theorem dX9_markOf_41 : decode cX9_markOf 41 = .ok (.iload_n 1, 1) := by decide +kernel
theorem dX9_markOf_42 : decode cX9_markOf 42 = .ok (.invokevirtual 254, 3) := by decide +kernel
theorem dX9_markOf_45 : decode cX9_markOf 45 = .ok (.sipush 1000, 3) := by decide +kernel
theorem dX9_markOf_48 : decode cX9_markOf 48 = .ok (.isub, 1) := by decide +kernel
theorem dX9_markOf_49 : decode cX9_markOf 49 = .ok (.ireturn, 1) := by decide +kernel
theorem dX9_markOf_50 : decode cX9_markOf 50 = .ok (.iload_n 2, 1) := by decide +kernel
theorem dX9_markOf_51 : decode cX9_markOf 51 = .ok (.iconst 1, 1) := by decide +kernel
theorem dX9_markOf_52 : decode cX9_markOf 52 = .ok (.if_icmp .ne 9, 3) := by decide +kernel
theorem dX9_markOf_55 : decode cX9_markOf 55 = .ok (.aload_n 0, 1) := by decide +kernel
theorem dX9_markOf_56 : decode cX9_markOf 56 = .ok (.iload_n 1, 1) := by decide +kernel
theorem dX9_markOf_57 : decode cX9_markOf 57 = .ok (.invokevirtual 254, 3) := by decide +kernel
theorem dX9_markOf_60 : decode cX9_markOf 60 = .ok (.ireturn, 1) := by decide +kernel
theorem dX9_markOf_61 : decode cX9_markOf 61 = .ok (.aload_n 0, 1) := by decide +kernel
theorem dX9_markOf_62 : decode cX9_markOf 62 = .ok (.bipush 23, 2) := by decide +kernel
theorem dX9_markOf_64 : decode cX9_markOf 64 = .ok (.invokevirtual 245, 3) := by decide +kernel
theorem dX9_markOf_67 : decode cX9_markOf 67 = .ok (.aload_n 0, 1) := by decide +kernel
theorem dX9_markOf_68 : decode cX9_markOf 68 = .ok (.iload_n 1, 1) := by decide +kernel
theorem dX9_markOf_69 : decode cX9_markOf 69 = .ok (.bipush 20, 2) := by decide +kernel
theorem dX9_markOf_71 : decode cX9_markOf 71 = .ok (.invokevirtual 248, 3) := by decide +kernel
theorem dX9_markOf_74 : decode cX9_markOf 74 = .ok (.istore_n 3, 1) := by decide +kernel
theorem dX9_markOf_75 : decode cX9_markOf 75 = .ok (.iload_n 3, 1) := by decide +kernel
theorem dX9_markOf_76 : decode cX9_markOf 76 = .ok (.aload_n 0, 1) := by decide +kernel
theorem dX9_markOf_77 : decode cX9_markOf 77 = .ok (.iload_n 1, 1) := by decide +kernel
theorem dX9_markOf_78 : decode cX9_markOf 78 = .ok (.invokevirtual 257, 3) := by decide +kernel
theorem dX9_markOf_81 : decode cX9_markOf 81 = .ok (.isub, 1) := by decide +kernel
theorem dX9_markOf_82 : decode cX9_markOf 82 = .ok (.ireturn, 1) := by decide +kernel
theorem dX9_steadySize_0 : decode cX9_steadySize 0 = .ok (.aload_n 0, 1) := by decide +kernel
theorem dX9_steadySize_1 : decode cX9_steadySize 1 = .ok (.bipush 11, 2) := by decide +kernel
theorem dX9_steadySize_3 : decode cX9_steadySize 3 = .ok (.invokevirtual 245, 3) := by decide +kernel
theorem dX9_steadySize_6 : decode cX9_steadySize 6 = .ok (.aload_n 0, 1) := by decide +kernel
theorem dX9_steadySize_7 : decode cX9_steadySize 7 = .ok (.iload_n 1, 1) := by decide +kernel
theorem dX9_steadySize_8 : decode cX9_steadySize 8 = .ok (.bipush 10, 2) := by decide +kernel
theorem dX9_steadySize_10 : decode cX9_steadySize 10 = .ok (.invokevirtual 248, 3) := by decide +kernel
theorem dX9_steadySize_13 : decode cX9_steadySize 13 = .ok (.istore_n 2, 1) := by decide +kernel
theorem dX9_steadySize_14 : decode cX9_steadySize 14 = .ok (.iload_n 2, 1) := by decide +kernel
theorem dX9_steadySize_15 : decode cX9_steadySize 15 = .ok (.aload_n 0, 1) := by decide +kernel
theorem dX9_steadySize_16 : decode cX9_steadySize 16 = .ok (.iload_n 1, 1) := by decide +kernel
theorem dX9_steadySize_17 : decode cX9_steadySize 17 = .ok (.invokevirtual 260, 3) := by decide +kernel
theorem dX9_steadySize_20 : decode cX9_steadySize 20 = .ok (.iadd, 1) := by decide +kernel
theorem dX9_steadySize_21 : decode cX9_steadySize 21 = .ok (.ireturn, 1) := by decide +kernel
theorem dX9_sizeOf_0 : decode cX9_sizeOf 0 = .ok (.aload_n 0, 1) := by decide +kernel
theorem dX9_sizeOf_1 : decode cX9_sizeOf 1 = .ok (.getfield 19, 3) := by decide +kernel
theorem dX9_sizeOf_4 : decode cX9_sizeOf 4 = .ok (.bipush 14, 2) := by decide +kernel
theorem dX9_sizeOf_6 : decode cX9_sizeOf 6 = .ok (.iload_n 1, 1) := by decide +kernel
theorem dX9_sizeOf_7 : decode cX9_sizeOf 7 = .ok (.iadd, 1) := by decide +kernel
theorem dX9_sizeOf_8 : decode cX9_sizeOf 8 = .ok (.iaload, 1) := by decide +kernel
theorem dX9_sizeOf_9 : decode cX9_sizeOf 9 = .ok (.istore_n 2, 1) := by decide +kernel
theorem dX9_sizeOf_10 : decode cX9_sizeOf 10 = .ok (.iload_n 2, 1) := by decide +kernel
theorem dX9_sizeOf_11 : decode cX9_sizeOf 11 = .ok (.iconst 2, 1) := by decide +kernel
theorem dX9_sizeOf_12 : decode cX9_sizeOf 12 = .ok (.if_icmp .ne 16, 3) := by decide +kernel
theorem dX9_sizeOf_15 : decode cX9_sizeOf 15 = .ok (.aload_n 0, 1) := by decide +kernel
theorem dX9_sizeOf_16 : decode cX9_sizeOf 16 = .ok (.bipush 12, 2) := by decide +kernel
theorem dX9_sizeOf_18 : decode cX9_sizeOf 18 = .ok (.invokevirtual 245, 3) := by decide +kernel
theorem dX9_sizeOf_21 : decode cX9_sizeOf 21 = .ok (.aload_n 0, 1) := by decide +kernel
theorem dX9_sizeOf_22 : decode cX9_sizeOf 22 = .ok (.iload_n 1, 1) := by decide +kernel
theorem dX9_sizeOf_23 : decode cX9_sizeOf 23 = .ok (.invokevirtual 263, 3) := by decide +kernel
theorem dX9_sizeOf_26 : decode cX9_sizeOf 26 = .ok (.ineg, 1) := by decide +kernel
theorem dX9_sizeOf_27 : decode cX9_sizeOf 27 = .ok (.ireturn, 1) := by decide +kernel
theorem dX9_sizeOf_28 : decode cX9_sizeOf 28 = .ok (.iload_n 2, 1) := by decide +kernel
theorem dX9_sizeOf_29 : decode cX9_sizeOf 29 = .ok (.iconst 4, 1) := by decide +kernel
theorem dX9_sizeOf_30 : decode cX9_sizeOf 30 = .ok (.if_icmp .lt 11, 3) := by decide +kernel
theorem dX9_sizeOf_33 : decode cX9_sizeOf 33 = .ok (.aload_n 0, 1) := by decide +kernel
theorem dX9_sizeOf_34 : decode cX9_sizeOf 34 = .ok (.iload_n 1, 1) := by decide +kernel
theorem dX9_sizeOf_35 : decode cX9_sizeOf 35 = .ok (.invokevirtual 257, 3) := by decide +kernel
theorem dX9_sizeOf_38 : decode cX9_sizeOf 38 = .ok (.goto 8, 3) := by decide +kernel
theorem dX9_sizeOf_41 : decode cX9_sizeOf 41 = .ok (.aload_n 0, 1) := by decide +kernel
theorem dX9_sizeOf_42 : decode cX9_sizeOf 42 = .ok (.iload_n 1, 1) := by decide +kernel
theorem dX9_sizeOf_43 : decode cX9_sizeOf 43 = .ok (.invokevirtual 263, 3) := by decide +kernel
theorem dX9_sizeOf_46 : decode cX9_sizeOf 46 = .ok (.ireturn, 1) := by decide +kernel
theorem dX9_ask_0 : decode cX9_ask 0 = .ok (.aload_n 0, 1) := by decide +kernel
theorem dX9_ask_1 : decode cX9_ask 1 = .ok (.iload_n 1, 1) := by decide +kernel
theorem dX9_ask_2 : decode cX9_ask 2 = .ok (.invokevirtual 197, 3) := by decide +kernel
theorem dX9_ask_5 : decode cX9_ask 5 = .ok (.ifCond .eq 13, 3) := by decide +kernel
theorem dX9_ask_8 : decode cX9_ask 8 = .ok (.iload_n 2, 1) := by decide +kernel
theorem dX9_ask_9 : decode cX9_ask 9 = .ok (.i2l, 1) := by decide +kernel
theorem dX9_ask_10 : decode cX9_ask 10 = .ok (.lconst 0, 1) := by decide +kernel
theorem dX9_ask_11 : decode cX9_ask 11 = .ok (.lconst 1, 1) := by decide +kernel
theorem dX9_ask_12 : decode cX9_ask 12 = .ok (.invokestatic 66, 3) := by decide +kernel
theorem dX9_ask_15 : decode cX9_ask 15 = .ok (.ifCond .ne 6, 3) := by decide +kernel
theorem dX9_ask_18 : decode cX9_ask 18 = .ok (.ldc 76, 2) := by decide +kernel
theorem dX9_ask_20 : decode cX9_ask 20 = .ok (.ireturn, 1) := by decide +kernel
theorem dX9_ask_21 : decode cX9_ask 21 = .ok (.aload_n 0, 1) := by decide +kernel
theorem dX9_ask_22 : decode cX9_ask 22 = .ok (.iconst 0, 1) := by decide +kernel
theorem dX9_ask_23 : decode cX9_ask 23 = .ok (.putfield 242, 3) := by decide +kernel
theorem dX9_ask_26 : decode cX9_ask 26 = .ok (.iload_n 2, 1) := by decide +kernel
theorem dX9_ask_27 : decode cX9_ask 27 = .ok (.ifCond .ne 11, 3) := by decide +kernel
theorem dX9_ask_30 : decode cX9_ask 30 = .ok (.aload_n 0, 1) := by decide +kernel
theorem dX9_ask_31 : decode cX9_ask 31 = .ok (.iload_n 1, 1) := by decide +kernel
theorem dX9_ask_32 : decode cX9_ask 32 = .ok (.invokevirtual 266, 3) := by decide +kernel
theorem dX9_ask_35 : decode cX9_ask 35 = .ok (.goto 8, 3) := by decide +kernel
theorem dX9_ask_38 : decode cX9_ask 38 = .ok (.aload_n 0, 1) := by decide +kernel
theorem dX9_ask_39 : decode cX9_ask 39 = .ok (.iload_n 1, 1) := by decide +kernel
theorem dX9_ask_40 : decode cX9_ask 40 = .ok (.invokevirtual 260, 3) := by decide +kernel
theorem dX9_ask_43 : decode cX9_ask 43 = .ok (.ireturn, 1) := by decide +kernel
theorem dX9_trace_0 : decode cX9_trace 0 = .ok (.iload_n 1, 1) := by decide +kernel
theorem dX9_trace_1 : decode cX9_trace 1 = .ok (.i2l, 1) := by decide +kernel
theorem dX9_trace_2 : decode cX9_trace 2 = .ok (.lconst 0, 1) := by decide +kernel
theorem dX9_trace_3 : decode cX9_trace 3 = .ok (.aload_n 0, 1) := by decide +kernel
theorem dX9_trace_4 : decode cX9_trace 4 = .ok (.getfield 242, 3) := by decide +kernel
theorem dX9_trace_7 : decode cX9_trace 7 = .ok (.iconst 1, 1) := by decide +kernel
theorem dX9_trace_8 : decode cX9_trace 8 = .ok (.isub, 1) := by decide +kernel
theorem dX9_trace_9 : decode cX9_trace 9 = .ok (.i2l, 1) := by decide +kernel
theorem dX9_trace_10 : decode cX9_trace 10 = .ok (.invokestatic 66, 3) := by decide +kernel
theorem dX9_trace_13 : decode cX9_trace 13 = .ok (.ifCond .eq 12, 3) := by decide +kernel
theorem dX9_trace_16 : decode cX9_trace 16 = .ok (.aload_n 0, 1) := by decide +kernel
theorem dX9_trace_17 : decode cX9_trace 17 = .ok (.getfield 56, 3) := by decide +kernel
theorem dX9_trace_20 : decode cX9_trace 20 = .ok (.iload_n 1, 1) := by decide +kernel
theorem dX9_trace_21 : decode cX9_trace 21 = .ok (.iaload, 1) := by decide +kernel
theorem dX9_trace_22 : decode cX9_trace 22 = .ok (.goto 5, 3) := by decide +kernel
theorem dX9_trace_25 : decode cX9_trace 25 = .ok (.ldc 200, 2) := by decide +kernel
theorem dX9_trace_27 : decode cX9_trace 27 = .ok (.ireturn, 1) := by decide +kernel
theorem dX9_count_0 : decode cX9_count 0 = .ok (.iconst 0, 1) := by decide +kernel
theorem dX9_count_1 : decode cX9_count 1 = .ok (.istore_n 2, 1) := by decide +kernel
theorem dX9_count_2 : decode cX9_count 2 = .ok (.iconst 0, 1) := by decide +kernel
theorem dX9_count_3 : decode cX9_count 3 = .ok (.istore_n 3, 1) := by decide +kernel
theorem dX9_count_4 : decode cX9_count 4 = .ok (.iload_n 3, 1) := by decide +kernel
theorem dX9_count_5 : decode cX9_count 5 = .ok (.bipush 8, 2) := by decide +kernel
theorem dX9_count_7 : decode cX9_count 7 = .ok (.if_icmp .ge 26, 3) := by decide +kernel
theorem dX9_count_10 : decode cX9_count 10 = .ok (.iload_n 2, 1) := by decide +kernel
theorem dX9_count_11 : decode cX9_count 11 = .ok (.aload_n 0, 1) := by decide +kernel
theorem dX9_count_12 : decode cX9_count 12 = .ok (.getfield 13, 3) := by decide +kernel
theorem dX9_count_15 : decode cX9_count 15 = .ok (.iload_n 3, 1) := by decide +kernel
theorem dX9_count_16 : decode cX9_count 16 = .ok (.iaload, 1) := by decide +kernel
theorem dX9_count_17 : decode cX9_count 17 = .ok (.ifCond .lt 7, 3) := by decide +kernel
theorem dX9_count_20 : decode cX9_count 20 = .ok (.iconst 1, 1) := by decide +kernel
theorem dX9_count_21 : decode cX9_count 21 = .ok (.goto 4, 3) := by decide +kernel
theorem dX9_count_24 : decode cX9_count 24 = .ok (.iconst 0, 1) := by decide +kernel
theorem dX9_count_25 : decode cX9_count 25 = .ok (.iadd, 1) := by decide +kernel
theorem dX9_count_26 : decode cX9_count 26 = .ok (.istore_n 2, 1) := by decide +kernel
theorem dX9_count_27 : decode cX9_count 27 = .ok (.iinc 3 1, 3) := by decide +kernel
theorem dX9_count_30 : decode cX9_count 30 = .ok (.goto (-26), 3) := by decide +kernel
theorem dX9_count_33 : decode cX9_count 33 = .ok (.iload_n 1, 1) := by decide +kernel
theorem dX9_count_34 : decode cX9_count 34 = .ok (.tableswitch 110 0 8 #[50, 52, 60, 68, 76, 84, 92, 100, 105], 50) := by decide +kernel
theorem dX9_count_84 : decode cX9_count 84 = .ok (.iload_n 2, 1) := by decide +kernel
theorem dX9_count_85 : decode cX9_count 85 = .ok (.ireturn, 1) := by decide +kernel
theorem dX9_count_86 : decode cX9_count 86 = .ok (.aload_n 0, 1) := by decide +kernel
theorem dX9_count_87 : decode cX9_count 87 = .ok (.getfield 19, 3) := by decide +kernel
theorem dX9_count_90 : decode cX9_count 90 = .ok (.bipush 8, 2) := by decide +kernel
theorem dX9_count_92 : decode cX9_count 92 = .ok (.iaload, 1) := by decide +kernel
theorem dX9_count_93 : decode cX9_count 93 = .ok (.ireturn, 1) := by decide +kernel
theorem dX9_count_94 : decode cX9_count 94 = .ok (.aload_n 0, 1) := by decide +kernel
theorem dX9_count_95 : decode cX9_count 95 = .ok (.getfield 19, 3) := by decide +kernel
theorem dX9_count_98 : decode cX9_count 98 = .ok (.bipush 13, 2) := by decide +kernel
theorem dX9_count_100 : decode cX9_count 100 = .ok (.iaload, 1) := by decide +kernel
theorem dX9_count_101 : decode cX9_count 101 = .ok (.ireturn, 1) := by decide +kernel
theorem dX9_count_102 : decode cX9_count 102 = .ok (.aload_n 0, 1) := by decide +kernel
theorem dX9_count_103 : decode cX9_count 103 = .ok (.getfield 19, 3) := by decide +kernel
theorem dX9_count_106 : decode cX9_count 106 = .ok (.bipush 9, 2) := by decide +kernel
theorem dX9_count_108 : decode cX9_count 108 = .ok (.iaload, 1) := by decide +kernel
theorem dX9_count_109 : decode cX9_count 109 = .ok (.ireturn, 1) := by decide +kernel
theorem dX9_count_110 : decode cX9_count 110 = .ok (.aload_n 0, 1) := by decide +kernel
theorem dX9_count_111 : decode cX9_count 111 = .ok (.getfield 19, 3) := by decide +kernel
theorem dX9_count_114 : decode cX9_count 114 = .ok (.bipush 10, 2) := by decide +kernel
theorem dX9_count_116 : decode cX9_count 116 = .ok (.iaload, 1) := by decide +kernel
theorem dX9_count_117 : decode cX9_count 117 = .ok (.ireturn, 1) := by decide +kernel
theorem dX9_count_118 : decode cX9_count 118 = .ok (.aload_n 0, 1) := by decide +kernel
theorem dX9_count_119 : decode cX9_count 119 = .ok (.getfield 19, 3) := by decide +kernel
theorem dX9_count_122 : decode cX9_count 122 = .ok (.bipush 11, 2) := by decide +kernel
theorem dX9_count_124 : decode cX9_count 124 = .ok (.iaload, 1) := by decide +kernel
theorem dX9_count_125 : decode cX9_count 125 = .ok (.ireturn, 1) := by decide +kernel
theorem dX9_count_126 : decode cX9_count 126 = .ok (.aload_n 0, 1) := by decide +kernel
theorem dX9_count_127 : decode cX9_count 127 = .ok (.getfield 19, 3) := by decide +kernel
theorem dX9_count_130 : decode cX9_count 130 = .ok (.bipush 12, 2) := by decide +kernel
theorem dX9_count_132 : decode cX9_count 132 = .ok (.iaload, 1) := by decide +kernel
theorem dX9_count_133 : decode cX9_count 133 = .ok (.ireturn, 1) := by decide +kernel
theorem dX9_count_134 : decode cX9_count 134 = .ok (.aload_n 0, 1) := by decide +kernel
theorem dX9_count_135 : decode cX9_count 135 = .ok (.getfield 158, 3) := by decide +kernel
theorem dX9_count_138 : decode cX9_count 138 = .ok (.ireturn, 1) := by decide +kernel
theorem dX9_count_139 : decode cX9_count 139 = .ok (.aload_n 0, 1) := by decide +kernel
theorem dX9_count_140 : decode cX9_count 140 = .ok (.getfield 90, 3) := by decide +kernel
theorem dX9_count_143 : decode cX9_count 143 = .ok (.ireturn, 1) := by decide +kernel
theorem dX9_count_144 : decode cX9_count 144 = .ok (.ldc 76, 2) := by decide +kernel
theorem dX9_count_146 : decode cX9_count 146 = .ok (.ireturn, 1) := by decide +kernel
theorem dX9_status_0 : decode cX9_status 0 = .ok (.aload_n 0, 1) := by decide +kernel
theorem dX9_status_1 : decode cX9_status 1 = .ok (.getfield 59, 3) := by decide +kernel
theorem dX9_status_4 : decode cX9_status 4 = .ok (.ireturn, 1) := by decide +kernel
theorem dJ9_max_7cf53_0 : decode cJ9_max_7cf53 0 = .ok (.iload_n 0, 1) := by decide +kernel
theorem dJ9_max_7cf53_1 : decode cJ9_max_7cf53 1 = .ok (.iload_n 1, 1) := by decide +kernel
theorem dJ9_max_7cf53_2 : decode cJ9_max_7cf53 2 = .ok (.if_icmp .lt 7, 3) := by decide +kernel
theorem dJ9_max_7cf53_5 : decode cJ9_max_7cf53 5 = .ok (.iload_n 0, 1) := by decide +kernel
theorem dJ9_max_7cf53_6 : decode cJ9_max_7cf53 6 = .ok (.goto 4, 3) := by decide +kernel
theorem dJ9_max_7cf53_9 : decode cJ9_max_7cf53 9 = .ok (.iload_n 1, 1) := by decide +kernel
theorem dJ9_max_7cf53_10 : decode cJ9_max_7cf53 10 = .ok (.ireturn, 1) := by decide +kernel
theorem dJ9_min_7cf53_0 : decode cJ9_min_7cf53 0 = .ok (.iload_n 0, 1) := by decide +kernel
theorem dJ9_min_7cf53_1 : decode cJ9_min_7cf53 1 = .ok (.iload_n 1, 1) := by decide +kernel
theorem dJ9_min_7cf53_2 : decode cJ9_min_7cf53 2 = .ok (.if_icmp .gt 7, 3) := by decide +kernel
theorem dJ9_min_7cf53_5 : decode cJ9_min_7cf53 5 = .ok (.iload_n 0, 1) := by decide +kernel
theorem dJ9_min_7cf53_6 : decode cJ9_min_7cf53 6 = .ok (.goto 4, 3) := by decide +kernel
theorem dJ9_min_7cf53_9 : decode cJ9_min_7cf53 9 = .ok (.iload_n 1, 1) := by decide +kernel
theorem dJ9_min_7cf53_10 : decode cJ9_min_7cf53 10 = .ok (.ireturn, 1) := by decide +kernel
theorem dL_law_0 : decode cL_law 0 = .ok (.new 7, 3) := by decide +kernel
theorem dL_law_3 : decode cL_law 3 = .ok (.dup, 1) := by decide +kernel
theorem dL_law_4 : decode cL_law 4 = .ok (.invokespecial 9, 3) := by decide +kernel
theorem dL_law_7 : decode cL_law 7 = .ok (.astore_n 1, 1) := by decide +kernel
theorem dL_law_8 : decode cL_law 8 = .ok (.new 10, 3) := by decide +kernel
theorem dL_law_11 : decode cL_law 11 = .ok (.dup, 1) := by decide +kernel
theorem dL_law_12 : decode cL_law 12 = .ok (.invokespecial 12, 3) := by decide +kernel
theorem dL_law_15 : decode cL_law 15 = .ok (.astore_n 2, 1) := by decide +kernel
theorem dL_law_16 : decode cL_law 16 = .ok (.iconst 0, 1) := by decide +kernel
theorem dL_law_17 : decode cL_law 17 = .ok (.istore_n 3, 1) := by decide +kernel
theorem dL_law_18 : decode cL_law 18 = .ok (.iload_n 3, 1) := by decide +kernel
theorem dL_law_19 : decode cL_law 19 = .ok (.aload_n 0, 1) := by decide +kernel
theorem dL_law_20 : decode cL_law 20 = .ok (.arraylength, 1) := by decide +kernel
theorem dL_law_21 : decode cL_law 21 = .ok (.bipush 6, 2) := by decide +kernel
theorem dL_law_23 : decode cL_law 23 = .ok (.isub, 1) := by decide +kernel
theorem dL_law_24 : decode cL_law 24 = .ok (.if_icmp .gt 977, 3) := by decide +kernel
theorem dL_law_27 : decode cL_law 27 = .ok (.aload_n 0, 1) := by decide +kernel
theorem dL_law_28 : decode cL_law 28 = .ok (.iload_n 3, 1) := by decide +kernel
theorem dL_law_29 : decode cL_law 29 = .ok (.iaload, 1) := by decide +kernel
theorem dL_law_30 : decode cL_law 30 = .ok (.bipush 31, 2) := by decide +kernel
theorem dL_law_32 : decode cL_law 32 = .ok (.iand, 1) := by decide +kernel
theorem dL_law_33 : decode cL_law 33 = .ok (.tableswitch 962 0 30 #[139, 182, 225, 288, 311, 334, 347, 360, 373, 406, 439, 452, 485, 508, 531, 564, 577, 600, 623, 646, 669, 692, 705, 768, 791, 814, 837, 870, 903, 926, 949], 139) := by decide +kernel
theorem dL_law_172 : decode cL_law 172 = .ok (.aload_n 1, 1) := by decide +kernel
theorem dL_law_173 : decode cL_law 173 = .ok (.aload_n 0, 1) := by decide +kernel
theorem dL_law_174 : decode cL_law 174 = .ok (.iload_n 3, 1) := by decide +kernel
theorem dL_law_175 : decode cL_law 175 = .ok (.iconst 1, 1) := by decide +kernel
theorem dL_law_176 : decode cL_law 176 = .ok (.iadd, 1) := by decide +kernel
theorem dL_law_177 : decode cL_law 177 = .ok (.iaload, 1) := by decide +kernel
theorem dL_law_178 : decode cL_law 178 = .ok (.aload_n 0, 1) := by decide +kernel
theorem dL_law_179 : decode cL_law 179 = .ok (.iload_n 3, 1) := by decide +kernel
theorem dL_law_180 : decode cL_law 180 = .ok (.iconst 2, 1) := by decide +kernel
theorem dL_law_181 : decode cL_law 181 = .ok (.iadd, 1) := by decide +kernel
theorem dL_law_182 : decode cL_law 182 = .ok (.iaload, 1) := by decide +kernel
theorem dL_law_183 : decode cL_law 183 = .ok (.aload_n 0, 1) := by decide +kernel
theorem dL_law_184 : decode cL_law 184 = .ok (.iload_n 3, 1) := by decide +kernel
theorem dL_law_185 : decode cL_law 185 = .ok (.iconst 3, 1) := by decide +kernel
theorem dL_law_186 : decode cL_law 186 = .ok (.iadd, 1) := by decide +kernel
theorem dL_law_187 : decode cL_law 187 = .ok (.iaload, 1) := by decide +kernel
theorem dL_law_188 : decode cL_law 188 = .ok (.invokevirtual 13, 3) := by decide +kernel
theorem dL_law_191 : decode cL_law 191 = .ok (.aload_n 2, 1) := by decide +kernel
theorem dL_law_192 : decode cL_law 192 = .ok (.aload_n 0, 1) := by decide +kernel
theorem dL_law_193 : decode cL_law 193 = .ok (.iload_n 3, 1) := by decide +kernel
theorem dL_law_194 : decode cL_law 194 = .ok (.iconst 1, 1) := by decide +kernel
theorem dL_law_195 : decode cL_law 195 = .ok (.iadd, 1) := by decide +kernel
theorem dL_law_196 : decode cL_law 196 = .ok (.iaload, 1) := by decide +kernel
theorem dL_law_197 : decode cL_law 197 = .ok (.aload_n 0, 1) := by decide +kernel
theorem dL_law_198 : decode cL_law 198 = .ok (.iload_n 3, 1) := by decide +kernel
theorem dL_law_199 : decode cL_law 199 = .ok (.iconst 2, 1) := by decide +kernel
theorem dL_law_200 : decode cL_law 200 = .ok (.iadd, 1) := by decide +kernel
theorem dL_law_201 : decode cL_law 201 = .ok (.iaload, 1) := by decide +kernel
theorem dL_law_202 : decode cL_law 202 = .ok (.aload_n 0, 1) := by decide +kernel
theorem dL_law_203 : decode cL_law 203 = .ok (.iload_n 3, 1) := by decide +kernel
theorem dL_law_204 : decode cL_law 204 = .ok (.iconst 3, 1) := by decide +kernel
theorem dL_law_205 : decode cL_law 205 = .ok (.iadd, 1) := by decide +kernel
theorem dL_law_206 : decode cL_law 206 = .ok (.iaload, 1) := by decide +kernel
theorem dL_law_207 : decode cL_law 207 = .ok (.invokevirtual 17, 3) := by decide +kernel
theorem dL_law_210 : decode cL_law 210 = .ok (.if_icmp .eq 785, 3) := by decide +kernel
theorem dL_law_213 : decode cL_law 213 = .ok (.iconst 0, 1) := by decide +kernel
theorem dL_law_214 : decode cL_law 214 = .ok (.ireturn, 1) := by decide +kernel
theorem dL_law_215 : decode cL_law 215 = .ok (.aload_n 1, 1) := by decide +kernel
theorem dL_law_216 : decode cL_law 216 = .ok (.aload_n 0, 1) := by decide +kernel
theorem dL_law_217 : decode cL_law 217 = .ok (.iload_n 3, 1) := by decide +kernel
theorem dL_law_218 : decode cL_law 218 = .ok (.iconst 1, 1) := by decide +kernel
theorem dL_law_219 : decode cL_law 219 = .ok (.iadd, 1) := by decide +kernel
theorem dL_law_220 : decode cL_law 220 = .ok (.iaload, 1) := by decide +kernel
theorem dL_law_221 : decode cL_law 221 = .ok (.aload_n 0, 1) := by decide +kernel
theorem dL_law_222 : decode cL_law 222 = .ok (.iload_n 3, 1) := by decide +kernel
theorem dL_law_223 : decode cL_law 223 = .ok (.iconst 2, 1) := by decide +kernel
theorem dL_law_224 : decode cL_law 224 = .ok (.iadd, 1) := by decide +kernel
theorem dL_law_225 : decode cL_law 225 = .ok (.iaload, 1) := by decide +kernel
theorem dL_law_226 : decode cL_law 226 = .ok (.aload_n 0, 1) := by decide +kernel
theorem dL_law_227 : decode cL_law 227 = .ok (.iload_n 3, 1) := by decide +kernel
theorem dL_law_228 : decode cL_law 228 = .ok (.iconst 3, 1) := by decide +kernel
theorem dL_law_229 : decode cL_law 229 = .ok (.iadd, 1) := by decide +kernel
theorem dL_law_230 : decode cL_law 230 = .ok (.iaload, 1) := by decide +kernel
theorem dL_law_231 : decode cL_law 231 = .ok (.invokevirtual 18, 3) := by decide +kernel
theorem dL_law_234 : decode cL_law 234 = .ok (.aload_n 2, 1) := by decide +kernel
theorem dL_law_235 : decode cL_law 235 = .ok (.aload_n 0, 1) := by decide +kernel
theorem dL_law_236 : decode cL_law 236 = .ok (.iload_n 3, 1) := by decide +kernel
theorem dL_law_237 : decode cL_law 237 = .ok (.iconst 1, 1) := by decide +kernel
theorem dL_law_238 : decode cL_law 238 = .ok (.iadd, 1) := by decide +kernel
theorem dL_law_239 : decode cL_law 239 = .ok (.iaload, 1) := by decide +kernel
theorem dL_law_240 : decode cL_law 240 = .ok (.aload_n 0, 1) := by decide +kernel
theorem dL_law_241 : decode cL_law 241 = .ok (.iload_n 3, 1) := by decide +kernel
theorem dL_law_242 : decode cL_law 242 = .ok (.iconst 2, 1) := by decide +kernel
theorem dL_law_243 : decode cL_law 243 = .ok (.iadd, 1) := by decide +kernel
theorem dL_law_244 : decode cL_law 244 = .ok (.iaload, 1) := by decide +kernel
theorem dL_law_245 : decode cL_law 245 = .ok (.aload_n 0, 1) := by decide +kernel
theorem dL_law_246 : decode cL_law 246 = .ok (.iload_n 3, 1) := by decide +kernel
theorem dL_law_247 : decode cL_law 247 = .ok (.iconst 3, 1) := by decide +kernel
theorem dL_law_248 : decode cL_law 248 = .ok (.iadd, 1) := by decide +kernel
theorem dL_law_249 : decode cL_law 249 = .ok (.iaload, 1) := by decide +kernel
theorem dL_law_250 : decode cL_law 250 = .ok (.invokevirtual 21, 3) := by decide +kernel
theorem dL_law_253 : decode cL_law 253 = .ok (.if_icmp .eq 742, 3) := by decide +kernel
theorem dL_law_256 : decode cL_law 256 = .ok (.iconst 0, 1) := by decide +kernel
theorem dL_law_257 : decode cL_law 257 = .ok (.ireturn, 1) := by decide +kernel
theorem dL_law_258 : decode cL_law 258 = .ok (.aload_n 1, 1) := by decide +kernel
theorem dL_law_259 : decode cL_law 259 = .ok (.aload_n 0, 1) := by decide +kernel
theorem dL_law_260 : decode cL_law 260 = .ok (.iload_n 3, 1) := by decide +kernel
theorem dL_law_261 : decode cL_law 261 = .ok (.iconst 1, 1) := by decide +kernel
theorem dL_law_262 : decode cL_law 262 = .ok (.iadd, 1) := by decide +kernel
theorem dL_law_263 : decode cL_law 263 = .ok (.iaload, 1) := by decide +kernel
theorem dL_law_264 : decode cL_law 264 = .ok (.aload_n 0, 1) := by decide +kernel
theorem dL_law_265 : decode cL_law 265 = .ok (.iload_n 3, 1) := by decide +kernel
theorem dL_law_266 : decode cL_law 266 = .ok (.iconst 2, 1) := by decide +kernel
theorem dL_law_267 : decode cL_law 267 = .ok (.iadd, 1) := by decide +kernel
theorem dL_law_268 : decode cL_law 268 = .ok (.iaload, 1) := by decide +kernel
theorem dL_law_269 : decode cL_law 269 = .ok (.aload_n 0, 1) := by decide +kernel
theorem dL_law_270 : decode cL_law 270 = .ok (.iload_n 3, 1) := by decide +kernel
theorem dL_law_271 : decode cL_law 271 = .ok (.iconst 3, 1) := by decide +kernel
theorem dL_law_272 : decode cL_law 272 = .ok (.iadd, 1) := by decide +kernel
theorem dL_law_273 : decode cL_law 273 = .ok (.iaload, 1) := by decide +kernel
theorem dL_law_274 : decode cL_law 274 = .ok (.aload_n 0, 1) := by decide +kernel
theorem dL_law_275 : decode cL_law 275 = .ok (.iload_n 3, 1) := by decide +kernel
theorem dL_law_276 : decode cL_law 276 = .ok (.iconst 4, 1) := by decide +kernel
theorem dL_law_277 : decode cL_law 277 = .ok (.iadd, 1) := by decide +kernel
theorem dL_law_278 : decode cL_law 278 = .ok (.iaload, 1) := by decide +kernel
theorem dL_law_279 : decode cL_law 279 = .ok (.aload_n 0, 1) := by decide +kernel
theorem dL_law_280 : decode cL_law 280 = .ok (.iload_n 3, 1) := by decide +kernel
theorem dL_law_281 : decode cL_law 281 = .ok (.iconst 5, 1) := by decide +kernel
theorem dL_law_282 : decode cL_law 282 = .ok (.iadd, 1) := by decide +kernel
theorem dL_law_283 : decode cL_law 283 = .ok (.iaload, 1) := by decide +kernel
theorem dL_law_284 : decode cL_law 284 = .ok (.invokevirtual 22, 3) := by decide +kernel
theorem dL_law_287 : decode cL_law 287 = .ok (.aload_n 2, 1) := by decide +kernel
theorem dL_law_288 : decode cL_law 288 = .ok (.aload_n 0, 1) := by decide +kernel
theorem dL_law_289 : decode cL_law 289 = .ok (.iload_n 3, 1) := by decide +kernel
theorem dL_law_290 : decode cL_law 290 = .ok (.iconst 1, 1) := by decide +kernel
theorem dL_law_291 : decode cL_law 291 = .ok (.iadd, 1) := by decide +kernel
theorem dL_law_292 : decode cL_law 292 = .ok (.iaload, 1) := by decide +kernel
theorem dL_law_293 : decode cL_law 293 = .ok (.aload_n 0, 1) := by decide +kernel
theorem dL_law_294 : decode cL_law 294 = .ok (.iload_n 3, 1) := by decide +kernel
theorem dL_law_295 : decode cL_law 295 = .ok (.iconst 2, 1) := by decide +kernel
theorem dL_law_296 : decode cL_law 296 = .ok (.iadd, 1) := by decide +kernel
theorem dL_law_297 : decode cL_law 297 = .ok (.iaload, 1) := by decide +kernel
theorem dL_law_298 : decode cL_law 298 = .ok (.aload_n 0, 1) := by decide +kernel
theorem dL_law_299 : decode cL_law 299 = .ok (.iload_n 3, 1) := by decide +kernel
theorem dL_law_300 : decode cL_law 300 = .ok (.iconst 3, 1) := by decide +kernel
theorem dL_law_301 : decode cL_law 301 = .ok (.iadd, 1) := by decide +kernel
theorem dL_law_302 : decode cL_law 302 = .ok (.iaload, 1) := by decide +kernel
theorem dL_law_303 : decode cL_law 303 = .ok (.aload_n 0, 1) := by decide +kernel
theorem dL_law_304 : decode cL_law 304 = .ok (.iload_n 3, 1) := by decide +kernel
theorem dL_law_305 : decode cL_law 305 = .ok (.iconst 4, 1) := by decide +kernel
theorem dL_law_306 : decode cL_law 306 = .ok (.iadd, 1) := by decide +kernel
theorem dL_law_307 : decode cL_law 307 = .ok (.iaload, 1) := by decide +kernel
theorem dL_law_308 : decode cL_law 308 = .ok (.aload_n 0, 1) := by decide +kernel
theorem dL_law_309 : decode cL_law 309 = .ok (.iload_n 3, 1) := by decide +kernel
theorem dL_law_310 : decode cL_law 310 = .ok (.iconst 5, 1) := by decide +kernel
theorem dL_law_311 : decode cL_law 311 = .ok (.iadd, 1) := by decide +kernel
theorem dL_law_312 : decode cL_law 312 = .ok (.iaload, 1) := by decide +kernel
theorem dL_law_313 : decode cL_law 313 = .ok (.invokevirtual 26, 3) := by decide +kernel
theorem dL_law_316 : decode cL_law 316 = .ok (.if_icmp .eq 679, 3) := by decide +kernel
theorem dL_law_319 : decode cL_law 319 = .ok (.iconst 0, 1) := by decide +kernel
theorem dL_law_320 : decode cL_law 320 = .ok (.ireturn, 1) := by decide +kernel
theorem dL_law_321 : decode cL_law 321 = .ok (.aload_n 1, 1) := by decide +kernel
theorem dL_law_322 : decode cL_law 322 = .ok (.aload_n 0, 1) := by decide +kernel
theorem dL_law_323 : decode cL_law 323 = .ok (.iload_n 3, 1) := by decide +kernel
theorem dL_law_324 : decode cL_law 324 = .ok (.iconst 1, 1) := by decide +kernel
theorem dL_law_325 : decode cL_law 325 = .ok (.iadd, 1) := by decide +kernel
theorem dL_law_326 : decode cL_law 326 = .ok (.iaload, 1) := by decide +kernel
theorem dL_law_327 : decode cL_law 327 = .ok (.invokevirtual 27, 3) := by decide +kernel
theorem dL_law_330 : decode cL_law 330 = .ok (.aload_n 2, 1) := by decide +kernel
theorem dL_law_331 : decode cL_law 331 = .ok (.aload_n 0, 1) := by decide +kernel
theorem dL_law_332 : decode cL_law 332 = .ok (.iload_n 3, 1) := by decide +kernel
theorem dL_law_333 : decode cL_law 333 = .ok (.iconst 1, 1) := by decide +kernel
theorem dL_law_334 : decode cL_law 334 = .ok (.iadd, 1) := by decide +kernel
theorem dL_law_335 : decode cL_law 335 = .ok (.iaload, 1) := by decide +kernel
theorem dL_law_336 : decode cL_law 336 = .ok (.invokevirtual 31, 3) := by decide +kernel
theorem dL_law_339 : decode cL_law 339 = .ok (.if_icmp .eq 656, 3) := by decide +kernel
theorem dL_law_342 : decode cL_law 342 = .ok (.iconst 0, 1) := by decide +kernel
theorem dL_law_343 : decode cL_law 343 = .ok (.ireturn, 1) := by decide +kernel
theorem dL_law_344 : decode cL_law 344 = .ok (.aload_n 1, 1) := by decide +kernel
theorem dL_law_345 : decode cL_law 345 = .ok (.aload_n 0, 1) := by decide +kernel
theorem dL_law_346 : decode cL_law 346 = .ok (.iload_n 3, 1) := by decide +kernel
theorem dL_law_347 : decode cL_law 347 = .ok (.iconst 1, 1) := by decide +kernel
theorem dL_law_348 : decode cL_law 348 = .ok (.iadd, 1) := by decide +kernel
theorem dL_law_349 : decode cL_law 349 = .ok (.iaload, 1) := by decide +kernel
theorem dL_law_350 : decode cL_law 350 = .ok (.invokevirtual 32, 3) := by decide +kernel
theorem dL_law_353 : decode cL_law 353 = .ok (.aload_n 2, 1) := by decide +kernel
theorem dL_law_354 : decode cL_law 354 = .ok (.aload_n 0, 1) := by decide +kernel
theorem dL_law_355 : decode cL_law 355 = .ok (.iload_n 3, 1) := by decide +kernel
theorem dL_law_356 : decode cL_law 356 = .ok (.iconst 1, 1) := by decide +kernel
theorem dL_law_357 : decode cL_law 357 = .ok (.iadd, 1) := by decide +kernel
theorem dL_law_358 : decode cL_law 358 = .ok (.iaload, 1) := by decide +kernel
theorem dL_law_359 : decode cL_law 359 = .ok (.invokevirtual 35, 3) := by decide +kernel
theorem dL_law_362 : decode cL_law 362 = .ok (.if_icmp .eq 633, 3) := by decide +kernel
theorem dL_law_365 : decode cL_law 365 = .ok (.iconst 0, 1) := by decide +kernel
theorem dL_law_366 : decode cL_law 366 = .ok (.ireturn, 1) := by decide +kernel
theorem dL_law_367 : decode cL_law 367 = .ok (.aload_n 1, 1) := by decide +kernel
theorem dL_law_368 : decode cL_law 368 = .ok (.invokevirtual 36, 3) := by decide +kernel
theorem dL_law_371 : decode cL_law 371 = .ok (.aload_n 2, 1) := by decide +kernel
theorem dL_law_372 : decode cL_law 372 = .ok (.invokevirtual 40, 3) := by decide +kernel
theorem dL_law_375 : decode cL_law 375 = .ok (.if_icmp .eq 620, 3) := by decide +kernel
theorem dL_law_378 : decode cL_law 378 = .ok (.iconst 0, 1) := by decide +kernel
theorem dL_law_379 : decode cL_law 379 = .ok (.ireturn, 1) := by decide +kernel
theorem dL_law_380 : decode cL_law 380 = .ok (.aload_n 1, 1) := by decide +kernel
theorem dL_law_381 : decode cL_law 381 = .ok (.invokevirtual 41, 3) := by decide +kernel
theorem dL_law_384 : decode cL_law 384 = .ok (.aload_n 2, 1) := by decide +kernel
theorem dL_law_385 : decode cL_law 385 = .ok (.invokevirtual 44, 3) := by decide +kernel
theorem dL_law_388 : decode cL_law 388 = .ok (.if_icmp .eq 607, 3) := by decide +kernel
theorem dL_law_391 : decode cL_law 391 = .ok (.iconst 0, 1) := by decide +kernel
theorem dL_law_392 : decode cL_law 392 = .ok (.ireturn, 1) := by decide +kernel
theorem dL_law_393 : decode cL_law 393 = .ok (.aload_n 1, 1) := by decide +kernel
theorem dL_law_394 : decode cL_law 394 = .ok (.invokevirtual 45, 3) := by decide +kernel
theorem dL_law_397 : decode cL_law 397 = .ok (.aload_n 2, 1) := by decide +kernel
theorem dL_law_398 : decode cL_law 398 = .ok (.invokevirtual 48, 3) := by decide +kernel
theorem dL_law_401 : decode cL_law 401 = .ok (.if_icmp .eq 594, 3) := by decide +kernel
theorem dL_law_404 : decode cL_law 404 = .ok (.iconst 0, 1) := by decide +kernel
theorem dL_law_405 : decode cL_law 405 = .ok (.ireturn, 1) := by decide +kernel
theorem dL_law_406 : decode cL_law 406 = .ok (.aload_n 1, 1) := by decide +kernel
theorem dL_law_407 : decode cL_law 407 = .ok (.aload_n 0, 1) := by decide +kernel
theorem dL_law_408 : decode cL_law 408 = .ok (.iload_n 3, 1) := by decide +kernel
theorem dL_law_409 : decode cL_law 409 = .ok (.iconst 1, 1) := by decide +kernel
theorem dL_law_410 : decode cL_law 410 = .ok (.iadd, 1) := by decide +kernel
theorem dL_law_411 : decode cL_law 411 = .ok (.iaload, 1) := by decide +kernel
theorem dL_law_412 : decode cL_law 412 = .ok (.aload_n 0, 1) := by decide +kernel
theorem dL_law_413 : decode cL_law 413 = .ok (.iload_n 3, 1) := by decide +kernel
theorem dL_law_414 : decode cL_law 414 = .ok (.iconst 2, 1) := by decide +kernel
theorem dL_law_415 : decode cL_law 415 = .ok (.iadd, 1) := by decide +kernel
theorem dL_law_416 : decode cL_law 416 = .ok (.iaload, 1) := by decide +kernel
theorem dL_law_417 : decode cL_law 417 = .ok (.invokevirtual 49, 3) := by decide +kernel
theorem dL_law_420 : decode cL_law 420 = .ok (.aload_n 2, 1) := by decide +kernel
theorem dL_law_421 : decode cL_law 421 = .ok (.aload_n 0, 1) := by decide +kernel
theorem dL_law_422 : decode cL_law 422 = .ok (.iload_n 3, 1) := by decide +kernel
theorem dL_law_423 : decode cL_law 423 = .ok (.iconst 1, 1) := by decide +kernel
theorem dL_law_424 : decode cL_law 424 = .ok (.iadd, 1) := by decide +kernel
theorem dL_law_425 : decode cL_law 425 = .ok (.iaload, 1) := by decide +kernel
theorem dL_law_426 : decode cL_law 426 = .ok (.aload_n 0, 1) := by decide +kernel
theorem dL_law_427 : decode cL_law 427 = .ok (.iload_n 3, 1) := by decide +kernel
theorem dL_law_428 : decode cL_law 428 = .ok (.iconst 2, 1) := by decide +kernel
theorem dL_law_429 : decode cL_law 429 = .ok (.iadd, 1) := by decide +kernel
theorem dL_law_430 : decode cL_law 430 = .ok (.iaload, 1) := by decide +kernel
theorem dL_law_431 : decode cL_law 431 = .ok (.invokevirtual 53, 3) := by decide +kernel
theorem dL_law_434 : decode cL_law 434 = .ok (.if_icmp .eq 561, 3) := by decide +kernel
theorem dL_law_437 : decode cL_law 437 = .ok (.iconst 0, 1) := by decide +kernel
theorem dL_law_438 : decode cL_law 438 = .ok (.ireturn, 1) := by decide +kernel
theorem dL_law_439 : decode cL_law 439 = .ok (.aload_n 1, 1) := by decide +kernel
theorem dL_law_440 : decode cL_law 440 = .ok (.aload_n 0, 1) := by decide +kernel
theorem dL_law_441 : decode cL_law 441 = .ok (.iload_n 3, 1) := by decide +kernel
theorem dL_law_442 : decode cL_law 442 = .ok (.iconst 1, 1) := by decide +kernel
theorem dL_law_443 : decode cL_law 443 = .ok (.iadd, 1) := by decide +kernel
theorem dL_law_444 : decode cL_law 444 = .ok (.iaload, 1) := by decide +kernel
theorem dL_law_445 : decode cL_law 445 = .ok (.aload_n 0, 1) := by decide +kernel
theorem dL_law_446 : decode cL_law 446 = .ok (.iload_n 3, 1) := by decide +kernel
theorem dL_law_447 : decode cL_law 447 = .ok (.iconst 2, 1) := by decide +kernel
theorem dL_law_448 : decode cL_law 448 = .ok (.iadd, 1) := by decide +kernel
theorem dL_law_449 : decode cL_law 449 = .ok (.iaload, 1) := by decide +kernel
theorem dL_law_450 : decode cL_law 450 = .ok (.invokevirtual 54, 3) := by decide +kernel
theorem dL_law_453 : decode cL_law 453 = .ok (.aload_n 2, 1) := by decide +kernel
theorem dL_law_454 : decode cL_law 454 = .ok (.aload_n 0, 1) := by decide +kernel
theorem dL_law_455 : decode cL_law 455 = .ok (.iload_n 3, 1) := by decide +kernel
theorem dL_law_456 : decode cL_law 456 = .ok (.iconst 1, 1) := by decide +kernel
theorem dL_law_457 : decode cL_law 457 = .ok (.iadd, 1) := by decide +kernel
theorem dL_law_458 : decode cL_law 458 = .ok (.iaload, 1) := by decide +kernel
theorem dL_law_459 : decode cL_law 459 = .ok (.aload_n 0, 1) := by decide +kernel
theorem dL_law_460 : decode cL_law 460 = .ok (.iload_n 3, 1) := by decide +kernel
theorem dL_law_461 : decode cL_law 461 = .ok (.iconst 2, 1) := by decide +kernel
theorem dL_law_462 : decode cL_law 462 = .ok (.iadd, 1) := by decide +kernel
theorem dL_law_463 : decode cL_law 463 = .ok (.iaload, 1) := by decide +kernel
theorem dL_law_464 : decode cL_law 464 = .ok (.invokevirtual 57, 3) := by decide +kernel
theorem dL_law_467 : decode cL_law 467 = .ok (.if_icmp .eq 528, 3) := by decide +kernel
theorem dL_law_470 : decode cL_law 470 = .ok (.iconst 0, 1) := by decide +kernel
theorem dL_law_471 : decode cL_law 471 = .ok (.ireturn, 1) := by decide +kernel
theorem dL_law_472 : decode cL_law 472 = .ok (.aload_n 1, 1) := by decide +kernel
theorem dL_law_473 : decode cL_law 473 = .ok (.invokevirtual 58, 3) := by decide +kernel
theorem dL_law_476 : decode cL_law 476 = .ok (.aload_n 2, 1) := by decide +kernel
theorem dL_law_477 : decode cL_law 477 = .ok (.invokevirtual 61, 3) := by decide +kernel
theorem dL_law_480 : decode cL_law 480 = .ok (.if_icmp .eq 515, 3) := by decide +kernel
theorem dL_law_483 : decode cL_law 483 = .ok (.iconst 0, 1) := by decide +kernel
theorem dL_law_484 : decode cL_law 484 = .ok (.ireturn, 1) := by decide +kernel
theorem dL_law_485 : decode cL_law 485 = .ok (.aload_n 1, 1) := by decide +kernel
theorem dL_law_486 : decode cL_law 486 = .ok (.aload_n 0, 1) := by decide +kernel
theorem dL_law_487 : decode cL_law 487 = .ok (.iload_n 3, 1) := by decide +kernel
theorem dL_law_488 : decode cL_law 488 = .ok (.iconst 1, 1) := by decide +kernel
theorem dL_law_489 : decode cL_law 489 = .ok (.iadd, 1) := by decide +kernel
theorem dL_law_490 : decode cL_law 490 = .ok (.iaload, 1) := by decide +kernel
theorem dL_law_491 : decode cL_law 491 = .ok (.aload_n 0, 1) := by decide +kernel
theorem dL_law_492 : decode cL_law 492 = .ok (.iload_n 3, 1) := by decide +kernel
theorem dL_law_493 : decode cL_law 493 = .ok (.iconst 2, 1) := by decide +kernel
theorem dL_law_494 : decode cL_law 494 = .ok (.iadd, 1) := by decide +kernel
theorem dL_law_495 : decode cL_law 495 = .ok (.iaload, 1) := by decide +kernel
theorem dL_law_496 : decode cL_law 496 = .ok (.invokevirtual 62, 3) := by decide +kernel
theorem dL_law_499 : decode cL_law 499 = .ok (.aload_n 2, 1) := by decide +kernel
theorem dL_law_500 : decode cL_law 500 = .ok (.aload_n 0, 1) := by decide +kernel
theorem dL_law_501 : decode cL_law 501 = .ok (.iload_n 3, 1) := by decide +kernel
theorem dL_law_502 : decode cL_law 502 = .ok (.iconst 1, 1) := by decide +kernel
theorem dL_law_503 : decode cL_law 503 = .ok (.iadd, 1) := by decide +kernel
theorem dL_law_504 : decode cL_law 504 = .ok (.iaload, 1) := by decide +kernel
theorem dL_law_505 : decode cL_law 505 = .ok (.aload_n 0, 1) := by decide +kernel
theorem dL_law_506 : decode cL_law 506 = .ok (.iload_n 3, 1) := by decide +kernel
theorem dL_law_507 : decode cL_law 507 = .ok (.iconst 2, 1) := by decide +kernel
theorem dL_law_508 : decode cL_law 508 = .ok (.iadd, 1) := by decide +kernel
theorem dL_law_509 : decode cL_law 509 = .ok (.iaload, 1) := by decide +kernel
theorem dL_law_510 : decode cL_law 510 = .ok (.invokevirtual 65, 3) := by decide +kernel
theorem dL_law_513 : decode cL_law 513 = .ok (.if_icmp .eq 482, 3) := by decide +kernel
theorem dL_law_516 : decode cL_law 516 = .ok (.iconst 0, 1) := by decide +kernel
theorem dL_law_517 : decode cL_law 517 = .ok (.ireturn, 1) := by decide +kernel
theorem dL_law_518 : decode cL_law 518 = .ok (.aload_n 1, 1) := by decide +kernel
theorem dL_law_519 : decode cL_law 519 = .ok (.aload_n 0, 1) := by decide +kernel
theorem dL_law_520 : decode cL_law 520 = .ok (.iload_n 3, 1) := by decide +kernel
theorem dL_law_521 : decode cL_law 521 = .ok (.iconst 1, 1) := by decide +kernel
theorem dL_law_522 : decode cL_law 522 = .ok (.iadd, 1) := by decide +kernel
theorem dL_law_523 : decode cL_law 523 = .ok (.iaload, 1) := by decide +kernel
theorem dL_law_524 : decode cL_law 524 = .ok (.invokevirtual 66, 3) := by decide +kernel
theorem dL_law_527 : decode cL_law 527 = .ok (.aload_n 2, 1) := by decide +kernel
theorem dL_law_528 : decode cL_law 528 = .ok (.aload_n 0, 1) := by decide +kernel
theorem dL_law_529 : decode cL_law 529 = .ok (.iload_n 3, 1) := by decide +kernel
theorem dL_law_530 : decode cL_law 530 = .ok (.iconst 1, 1) := by decide +kernel
theorem dL_law_531 : decode cL_law 531 = .ok (.iadd, 1) := by decide +kernel
theorem dL_law_532 : decode cL_law 532 = .ok (.iaload, 1) := by decide +kernel
theorem dL_law_533 : decode cL_law 533 = .ok (.invokevirtual 69, 3) := by decide +kernel
theorem dL_law_536 : decode cL_law 536 = .ok (.if_icmp .eq 459, 3) := by decide +kernel
theorem dL_law_539 : decode cL_law 539 = .ok (.iconst 0, 1) := by decide +kernel
theorem dL_law_540 : decode cL_law 540 = .ok (.ireturn, 1) := by decide +kernel
theorem dL_law_541 : decode cL_law 541 = .ok (.aload_n 1, 1) := by decide +kernel
theorem dL_law_542 : decode cL_law 542 = .ok (.aload_n 0, 1) := by decide +kernel
theorem dL_law_543 : decode cL_law 543 = .ok (.iload_n 3, 1) := by decide +kernel
theorem dL_law_544 : decode cL_law 544 = .ok (.iconst 1, 1) := by decide +kernel
theorem dL_law_545 : decode cL_law 545 = .ok (.iadd, 1) := by decide +kernel
theorem dL_law_546 : decode cL_law 546 = .ok (.iaload, 1) := by decide +kernel
theorem dL_law_547 : decode cL_law 547 = .ok (.invokevirtual 70, 3) := by decide +kernel
theorem dL_law_550 : decode cL_law 550 = .ok (.aload_n 2, 1) := by decide +kernel
theorem dL_law_551 : decode cL_law 551 = .ok (.aload_n 0, 1) := by decide +kernel
theorem dL_law_552 : decode cL_law 552 = .ok (.iload_n 3, 1) := by decide +kernel
theorem dL_law_553 : decode cL_law 553 = .ok (.iconst 1, 1) := by decide +kernel
theorem dL_law_554 : decode cL_law 554 = .ok (.iadd, 1) := by decide +kernel
theorem dL_law_555 : decode cL_law 555 = .ok (.iaload, 1) := by decide +kernel
theorem dL_law_556 : decode cL_law 556 = .ok (.invokevirtual 73, 3) := by decide +kernel
theorem dL_law_559 : decode cL_law 559 = .ok (.if_icmp .eq 436, 3) := by decide +kernel
theorem dL_law_562 : decode cL_law 562 = .ok (.iconst 0, 1) := by decide +kernel
theorem dL_law_563 : decode cL_law 563 = .ok (.ireturn, 1) := by decide +kernel
theorem dL_law_564 : decode cL_law 564 = .ok (.aload_n 1, 1) := by decide +kernel
theorem dL_law_565 : decode cL_law 565 = .ok (.aload_n 0, 1) := by decide +kernel
theorem dL_law_566 : decode cL_law 566 = .ok (.iload_n 3, 1) := by decide +kernel
theorem dL_law_567 : decode cL_law 567 = .ok (.iconst 1, 1) := by decide +kernel
theorem dL_law_568 : decode cL_law 568 = .ok (.iadd, 1) := by decide +kernel
theorem dL_law_569 : decode cL_law 569 = .ok (.iaload, 1) := by decide +kernel
theorem dL_law_570 : decode cL_law 570 = .ok (.aload_n 0, 1) := by decide +kernel
theorem dL_law_571 : decode cL_law 571 = .ok (.iload_n 3, 1) := by decide +kernel
theorem dL_law_572 : decode cL_law 572 = .ok (.iconst 2, 1) := by decide +kernel
theorem dL_law_573 : decode cL_law 573 = .ok (.iadd, 1) := by decide +kernel
theorem dL_law_574 : decode cL_law 574 = .ok (.iaload, 1) := by decide +kernel
theorem dL_law_575 : decode cL_law 575 = .ok (.invokevirtual 74, 3) := by decide +kernel
theorem dL_law_578 : decode cL_law 578 = .ok (.aload_n 2, 1) := by decide +kernel
theorem dL_law_579 : decode cL_law 579 = .ok (.aload_n 0, 1) := by decide +kernel
theorem dL_law_580 : decode cL_law 580 = .ok (.iload_n 3, 1) := by decide +kernel
theorem dL_law_581 : decode cL_law 581 = .ok (.iconst 1, 1) := by decide +kernel
theorem dL_law_582 : decode cL_law 582 = .ok (.iadd, 1) := by decide +kernel
theorem dL_law_583 : decode cL_law 583 = .ok (.iaload, 1) := by decide +kernel
theorem dL_law_584 : decode cL_law 584 = .ok (.aload_n 0, 1) := by decide +kernel
theorem dL_law_585 : decode cL_law 585 = .ok (.iload_n 3, 1) := by decide +kernel
theorem dL_law_586 : decode cL_law 586 = .ok (.iconst 2, 1) := by decide +kernel
theorem dL_law_587 : decode cL_law 587 = .ok (.iadd, 1) := by decide +kernel
theorem dL_law_588 : decode cL_law 588 = .ok (.iaload, 1) := by decide +kernel
theorem dL_law_589 : decode cL_law 589 = .ok (.invokevirtual 77, 3) := by decide +kernel
theorem dL_law_592 : decode cL_law 592 = .ok (.if_icmp .eq 403, 3) := by decide +kernel
theorem dL_law_595 : decode cL_law 595 = .ok (.iconst 0, 1) := by decide +kernel
theorem dL_law_596 : decode cL_law 596 = .ok (.ireturn, 1) := by decide +kernel
theorem dL_law_597 : decode cL_law 597 = .ok (.aload_n 1, 1) := by decide +kernel
theorem dL_law_598 : decode cL_law 598 = .ok (.invokevirtual 78, 3) := by decide +kernel
theorem dL_law_601 : decode cL_law 601 = .ok (.aload_n 2, 1) := by decide +kernel
theorem dL_law_602 : decode cL_law 602 = .ok (.invokevirtual 81, 3) := by decide +kernel
theorem dL_law_605 : decode cL_law 605 = .ok (.if_icmp .eq 390, 3) := by decide +kernel
theorem dL_law_608 : decode cL_law 608 = .ok (.iconst 0, 1) := by decide +kernel
theorem dL_law_609 : decode cL_law 609 = .ok (.ireturn, 1) := by decide +kernel
theorem dL_law_610 : decode cL_law 610 = .ok (.aload_n 1, 1) := by decide +kernel
theorem dL_law_611 : decode cL_law 611 = .ok (.aload_n 0, 1) := by decide +kernel
theorem dL_law_612 : decode cL_law 612 = .ok (.iload_n 3, 1) := by decide +kernel
theorem dL_law_613 : decode cL_law 613 = .ok (.iconst 1, 1) := by decide +kernel
theorem dL_law_614 : decode cL_law 614 = .ok (.iadd, 1) := by decide +kernel
theorem dL_law_615 : decode cL_law 615 = .ok (.iaload, 1) := by decide +kernel
theorem dL_law_616 : decode cL_law 616 = .ok (.invokevirtual 82, 3) := by decide +kernel
theorem dL_law_619 : decode cL_law 619 = .ok (.aload_n 2, 1) := by decide +kernel
theorem dL_law_620 : decode cL_law 620 = .ok (.aload_n 0, 1) := by decide +kernel
theorem dL_law_621 : decode cL_law 621 = .ok (.iload_n 3, 1) := by decide +kernel
theorem dL_law_622 : decode cL_law 622 = .ok (.iconst 1, 1) := by decide +kernel
theorem dL_law_623 : decode cL_law 623 = .ok (.iadd, 1) := by decide +kernel
theorem dL_law_624 : decode cL_law 624 = .ok (.iaload, 1) := by decide +kernel
theorem dL_law_625 : decode cL_law 625 = .ok (.invokevirtual 85, 3) := by decide +kernel
theorem dL_law_628 : decode cL_law 628 = .ok (.if_icmp .eq 367, 3) := by decide +kernel
theorem dL_law_631 : decode cL_law 631 = .ok (.iconst 0, 1) := by decide +kernel
theorem dL_law_632 : decode cL_law 632 = .ok (.ireturn, 1) := by decide +kernel
theorem dL_law_633 : decode cL_law 633 = .ok (.aload_n 1, 1) := by decide +kernel
theorem dL_law_634 : decode cL_law 634 = .ok (.aload_n 0, 1) := by decide +kernel
theorem dL_law_635 : decode cL_law 635 = .ok (.iload_n 3, 1) := by decide +kernel
theorem dL_law_636 : decode cL_law 636 = .ok (.iconst 1, 1) := by decide +kernel
theorem dL_law_637 : decode cL_law 637 = .ok (.iadd, 1) := by decide +kernel
theorem dL_law_638 : decode cL_law 638 = .ok (.iaload, 1) := by decide +kernel
theorem dL_law_639 : decode cL_law 639 = .ok (.invokevirtual 86, 3) := by decide +kernel
theorem dL_law_642 : decode cL_law 642 = .ok (.aload_n 2, 1) := by decide +kernel
theorem dL_law_643 : decode cL_law 643 = .ok (.aload_n 0, 1) := by decide +kernel
theorem dL_law_644 : decode cL_law 644 = .ok (.iload_n 3, 1) := by decide +kernel
theorem dL_law_645 : decode cL_law 645 = .ok (.iconst 1, 1) := by decide +kernel
theorem dL_law_646 : decode cL_law 646 = .ok (.iadd, 1) := by decide +kernel
theorem dL_law_647 : decode cL_law 647 = .ok (.iaload, 1) := by decide +kernel
theorem dL_law_648 : decode cL_law 648 = .ok (.invokevirtual 89, 3) := by decide +kernel
theorem dL_law_651 : decode cL_law 651 = .ok (.if_icmp .eq 344, 3) := by decide +kernel
theorem dL_law_654 : decode cL_law 654 = .ok (.iconst 0, 1) := by decide +kernel
theorem dL_law_655 : decode cL_law 655 = .ok (.ireturn, 1) := by decide +kernel
theorem dL_law_656 : decode cL_law 656 = .ok (.aload_n 1, 1) := by decide +kernel
theorem dL_law_657 : decode cL_law 657 = .ok (.aload_n 0, 1) := by decide +kernel
theorem dL_law_658 : decode cL_law 658 = .ok (.iload_n 3, 1) := by decide +kernel
theorem dL_law_659 : decode cL_law 659 = .ok (.iconst 1, 1) := by decide +kernel
theorem dL_law_660 : decode cL_law 660 = .ok (.iadd, 1) := by decide +kernel
theorem dL_law_661 : decode cL_law 661 = .ok (.iaload, 1) := by decide +kernel
theorem dL_law_662 : decode cL_law 662 = .ok (.invokevirtual 90, 3) := by decide +kernel
theorem dL_law_665 : decode cL_law 665 = .ok (.aload_n 2, 1) := by decide +kernel
theorem dL_law_666 : decode cL_law 666 = .ok (.aload_n 0, 1) := by decide +kernel
theorem dL_law_667 : decode cL_law 667 = .ok (.iload_n 3, 1) := by decide +kernel
theorem dL_law_668 : decode cL_law 668 = .ok (.iconst 1, 1) := by decide +kernel
theorem dL_law_669 : decode cL_law 669 = .ok (.iadd, 1) := by decide +kernel
theorem dL_law_670 : decode cL_law 670 = .ok (.iaload, 1) := by decide +kernel
theorem dL_law_671 : decode cL_law 671 = .ok (.invokevirtual 93, 3) := by decide +kernel
theorem dL_law_674 : decode cL_law 674 = .ok (.if_icmp .eq 321, 3) := by decide +kernel
theorem dL_law_677 : decode cL_law 677 = .ok (.iconst 0, 1) := by decide +kernel
theorem dL_law_678 : decode cL_law 678 = .ok (.ireturn, 1) := by decide +kernel
theorem dL_law_679 : decode cL_law 679 = .ok (.aload_n 1, 1) := by decide +kernel
theorem dL_law_680 : decode cL_law 680 = .ok (.aload_n 0, 1) := by decide +kernel
theorem dL_law_681 : decode cL_law 681 = .ok (.iload_n 3, 1) := by decide +kernel
theorem dL_law_682 : decode cL_law 682 = .ok (.iconst 1, 1) := by decide +kernel
theorem dL_law_683 : decode cL_law 683 = .ok (.iadd, 1) := by decide +kernel
theorem dL_law_684 : decode cL_law 684 = .ok (.iaload, 1) := by decide +kernel
theorem dL_law_685 : decode cL_law 685 = .ok (.invokevirtual 94, 3) := by decide +kernel
theorem dL_law_688 : decode cL_law 688 = .ok (.aload_n 2, 1) := by decide +kernel
theorem dL_law_689 : decode cL_law 689 = .ok (.aload_n 0, 1) := by decide +kernel
theorem dL_law_690 : decode cL_law 690 = .ok (.iload_n 3, 1) := by decide +kernel
theorem dL_law_691 : decode cL_law 691 = .ok (.iconst 1, 1) := by decide +kernel
theorem dL_law_692 : decode cL_law 692 = .ok (.iadd, 1) := by decide +kernel
theorem dL_law_693 : decode cL_law 693 = .ok (.iaload, 1) := by decide +kernel
theorem dL_law_694 : decode cL_law 694 = .ok (.invokevirtual 97, 3) := by decide +kernel
theorem dL_law_697 : decode cL_law 697 = .ok (.if_icmp .eq 298, 3) := by decide +kernel
theorem dL_law_700 : decode cL_law 700 = .ok (.iconst 0, 1) := by decide +kernel
theorem dL_law_701 : decode cL_law 701 = .ok (.ireturn, 1) := by decide +kernel
theorem dL_law_702 : decode cL_law 702 = .ok (.aload_n 1, 1) := by decide +kernel
theorem dL_law_703 : decode cL_law 703 = .ok (.aload_n 0, 1) := by decide +kernel
theorem dL_law_704 : decode cL_law 704 = .ok (.iload_n 3, 1) := by decide +kernel
theorem dL_law_705 : decode cL_law 705 = .ok (.iconst 1, 1) := by decide +kernel
theorem dL_law_706 : decode cL_law 706 = .ok (.iadd, 1) := by decide +kernel
theorem dL_law_707 : decode cL_law 707 = .ok (.iaload, 1) := by decide +kernel
theorem dL_law_708 : decode cL_law 708 = .ok (.invokevirtual 98, 3) := by decide +kernel
theorem dL_law_711 : decode cL_law 711 = .ok (.aload_n 2, 1) := by decide +kernel
theorem dL_law_712 : decode cL_law 712 = .ok (.aload_n 0, 1) := by decide +kernel
theorem dL_law_713 : decode cL_law 713 = .ok (.iload_n 3, 1) := by decide +kernel
theorem dL_law_714 : decode cL_law 714 = .ok (.iconst 1, 1) := by decide +kernel
theorem dL_law_715 : decode cL_law 715 = .ok (.iadd, 1) := by decide +kernel
theorem dL_law_716 : decode cL_law 716 = .ok (.iaload, 1) := by decide +kernel
theorem dL_law_717 : decode cL_law 717 = .ok (.invokevirtual 101, 3) := by decide +kernel
theorem dL_law_720 : decode cL_law 720 = .ok (.if_icmp .eq 275, 3) := by decide +kernel
theorem dL_law_723 : decode cL_law 723 = .ok (.iconst 0, 1) := by decide +kernel
theorem dL_law_724 : decode cL_law 724 = .ok (.ireturn, 1) := by decide +kernel
theorem dL_law_725 : decode cL_law 725 = .ok (.aload_n 1, 1) := by decide +kernel
theorem dL_law_726 : decode cL_law 726 = .ok (.invokevirtual 102, 3) := by decide +kernel
theorem dL_law_729 : decode cL_law 729 = .ok (.aload_n 2, 1) := by decide +kernel
theorem dL_law_730 : decode cL_law 730 = .ok (.invokevirtual 105, 3) := by decide +kernel
theorem dL_law_733 : decode cL_law 733 = .ok (.if_icmp .eq 262, 3) := by decide +kernel
theorem dL_law_736 : decode cL_law 736 = .ok (.iconst 0, 1) := by decide +kernel
theorem dL_law_737 : decode cL_law 737 = .ok (.ireturn, 1) := by decide +kernel
theorem dL_law_738 : decode cL_law 738 = .ok (.aload_n 1, 1) := by decide +kernel
theorem dL_law_739 : decode cL_law 739 = .ok (.aload_n 0, 1) := by decide +kernel
theorem dL_law_740 : decode cL_law 740 = .ok (.iload_n 3, 1) := by decide +kernel
theorem dL_law_741 : decode cL_law 741 = .ok (.iconst 1, 1) := by decide +kernel
theorem dL_law_742 : decode cL_law 742 = .ok (.iadd, 1) := by decide +kernel
theorem dL_law_743 : decode cL_law 743 = .ok (.iaload, 1) := by decide +kernel
theorem dL_law_744 : decode cL_law 744 = .ok (.aload_n 0, 1) := by decide +kernel
theorem dL_law_745 : decode cL_law 745 = .ok (.iload_n 3, 1) := by decide +kernel
theorem dL_law_746 : decode cL_law 746 = .ok (.iconst 2, 1) := by decide +kernel
theorem dL_law_747 : decode cL_law 747 = .ok (.iadd, 1) := by decide +kernel
theorem dL_law_748 : decode cL_law 748 = .ok (.iaload, 1) := by decide +kernel
theorem dL_law_749 : decode cL_law 749 = .ok (.aload_n 0, 1) := by decide +kernel
theorem dL_law_750 : decode cL_law 750 = .ok (.iload_n 3, 1) := by decide +kernel
theorem dL_law_751 : decode cL_law 751 = .ok (.iconst 3, 1) := by decide +kernel
theorem dL_law_752 : decode cL_law 752 = .ok (.iadd, 1) := by decide +kernel
theorem dL_law_753 : decode cL_law 753 = .ok (.iaload, 1) := by decide +kernel
theorem dL_law_754 : decode cL_law 754 = .ok (.aload_n 0, 1) := by decide +kernel
theorem dL_law_755 : decode cL_law 755 = .ok (.iload_n 3, 1) := by decide +kernel
theorem dL_law_756 : decode cL_law 756 = .ok (.iconst 4, 1) := by decide +kernel
theorem dL_law_757 : decode cL_law 757 = .ok (.iadd, 1) := by decide +kernel
theorem dL_law_758 : decode cL_law 758 = .ok (.iaload, 1) := by decide +kernel
theorem dL_law_759 : decode cL_law 759 = .ok (.aload_n 0, 1) := by decide +kernel
theorem dL_law_760 : decode cL_law 760 = .ok (.iload_n 3, 1) := by decide +kernel
theorem dL_law_761 : decode cL_law 761 = .ok (.iconst 5, 1) := by decide +kernel
theorem dL_law_762 : decode cL_law 762 = .ok (.iadd, 1) := by decide +kernel
theorem dL_law_763 : decode cL_law 763 = .ok (.iaload, 1) := by decide +kernel
theorem dL_law_764 : decode cL_law 764 = .ok (.invokevirtual 106, 3) := by decide +kernel
theorem dL_law_767 : decode cL_law 767 = .ok (.aload_n 2, 1) := by decide +kernel
theorem dL_law_768 : decode cL_law 768 = .ok (.aload_n 0, 1) := by decide +kernel
theorem dL_law_769 : decode cL_law 769 = .ok (.iload_n 3, 1) := by decide +kernel
theorem dL_law_770 : decode cL_law 770 = .ok (.iconst 1, 1) := by decide +kernel
theorem dL_law_771 : decode cL_law 771 = .ok (.iadd, 1) := by decide +kernel
theorem dL_law_772 : decode cL_law 772 = .ok (.iaload, 1) := by decide +kernel
theorem dL_law_773 : decode cL_law 773 = .ok (.aload_n 0, 1) := by decide +kernel
theorem dL_law_774 : decode cL_law 774 = .ok (.iload_n 3, 1) := by decide +kernel
theorem dL_law_775 : decode cL_law 775 = .ok (.iconst 2, 1) := by decide +kernel
theorem dL_law_776 : decode cL_law 776 = .ok (.iadd, 1) := by decide +kernel
theorem dL_law_777 : decode cL_law 777 = .ok (.iaload, 1) := by decide +kernel
theorem dL_law_778 : decode cL_law 778 = .ok (.aload_n 0, 1) := by decide +kernel
theorem dL_law_779 : decode cL_law 779 = .ok (.iload_n 3, 1) := by decide +kernel
theorem dL_law_780 : decode cL_law 780 = .ok (.iconst 3, 1) := by decide +kernel
theorem dL_law_781 : decode cL_law 781 = .ok (.iadd, 1) := by decide +kernel
theorem dL_law_782 : decode cL_law 782 = .ok (.iaload, 1) := by decide +kernel
theorem dL_law_783 : decode cL_law 783 = .ok (.aload_n 0, 1) := by decide +kernel
theorem dL_law_784 : decode cL_law 784 = .ok (.iload_n 3, 1) := by decide +kernel
theorem dL_law_785 : decode cL_law 785 = .ok (.iconst 4, 1) := by decide +kernel
theorem dL_law_786 : decode cL_law 786 = .ok (.iadd, 1) := by decide +kernel
theorem dL_law_787 : decode cL_law 787 = .ok (.iaload, 1) := by decide +kernel
theorem dL_law_788 : decode cL_law 788 = .ok (.aload_n 0, 1) := by decide +kernel
theorem dL_law_789 : decode cL_law 789 = .ok (.iload_n 3, 1) := by decide +kernel
theorem dL_law_790 : decode cL_law 790 = .ok (.iconst 5, 1) := by decide +kernel
theorem dL_law_791 : decode cL_law 791 = .ok (.iadd, 1) := by decide +kernel
theorem dL_law_792 : decode cL_law 792 = .ok (.iaload, 1) := by decide +kernel
theorem dL_law_793 : decode cL_law 793 = .ok (.invokevirtual 109, 3) := by decide +kernel
theorem dL_law_796 : decode cL_law 796 = .ok (.if_icmp .eq 199, 3) := by decide +kernel
theorem dL_law_799 : decode cL_law 799 = .ok (.iconst 0, 1) := by decide +kernel
theorem dL_law_800 : decode cL_law 800 = .ok (.ireturn, 1) := by decide +kernel
theorem dL_law_801 : decode cL_law 801 = .ok (.aload_n 1, 1) := by decide +kernel
theorem dL_law_802 : decode cL_law 802 = .ok (.aload_n 0, 1) := by decide +kernel
theorem dL_law_803 : decode cL_law 803 = .ok (.iload_n 3, 1) := by decide +kernel
theorem dL_law_804 : decode cL_law 804 = .ok (.iconst 1, 1) := by decide +kernel
theorem dL_law_805 : decode cL_law 805 = .ok (.iadd, 1) := by decide +kernel
theorem dL_law_806 : decode cL_law 806 = .ok (.iaload, 1) := by decide +kernel
theorem dL_law_807 : decode cL_law 807 = .ok (.invokevirtual 110, 3) := by decide +kernel
theorem dL_law_810 : decode cL_law 810 = .ok (.aload_n 2, 1) := by decide +kernel
theorem dL_law_811 : decode cL_law 811 = .ok (.aload_n 0, 1) := by decide +kernel
theorem dL_law_812 : decode cL_law 812 = .ok (.iload_n 3, 1) := by decide +kernel
theorem dL_law_813 : decode cL_law 813 = .ok (.iconst 1, 1) := by decide +kernel
theorem dL_law_814 : decode cL_law 814 = .ok (.iadd, 1) := by decide +kernel
theorem dL_law_815 : decode cL_law 815 = .ok (.iaload, 1) := by decide +kernel
theorem dL_law_816 : decode cL_law 816 = .ok (.invokevirtual 113, 3) := by decide +kernel
theorem dL_law_819 : decode cL_law 819 = .ok (.if_icmp .eq 176, 3) := by decide +kernel
theorem dL_law_822 : decode cL_law 822 = .ok (.iconst 0, 1) := by decide +kernel
theorem dL_law_823 : decode cL_law 823 = .ok (.ireturn, 1) := by decide +kernel
theorem dL_law_824 : decode cL_law 824 = .ok (.aload_n 1, 1) := by decide +kernel
theorem dL_law_825 : decode cL_law 825 = .ok (.aload_n 0, 1) := by decide +kernel
theorem dL_law_826 : decode cL_law 826 = .ok (.iload_n 3, 1) := by decide +kernel
theorem dL_law_827 : decode cL_law 827 = .ok (.iconst 1, 1) := by decide +kernel
theorem dL_law_828 : decode cL_law 828 = .ok (.iadd, 1) := by decide +kernel
theorem dL_law_829 : decode cL_law 829 = .ok (.iaload, 1) := by decide +kernel
theorem dL_law_830 : decode cL_law 830 = .ok (.invokevirtual 114, 3) := by decide +kernel
theorem dL_law_833 : decode cL_law 833 = .ok (.aload_n 2, 1) := by decide +kernel
theorem dL_law_834 : decode cL_law 834 = .ok (.aload_n 0, 1) := by decide +kernel
theorem dL_law_835 : decode cL_law 835 = .ok (.iload_n 3, 1) := by decide +kernel
theorem dL_law_836 : decode cL_law 836 = .ok (.iconst 1, 1) := by decide +kernel
theorem dL_law_837 : decode cL_law 837 = .ok (.iadd, 1) := by decide +kernel
theorem dL_law_838 : decode cL_law 838 = .ok (.iaload, 1) := by decide +kernel
theorem dL_law_839 : decode cL_law 839 = .ok (.invokevirtual 117, 3) := by decide +kernel
theorem dL_law_842 : decode cL_law 842 = .ok (.if_icmp .eq 153, 3) := by decide +kernel
theorem dL_law_845 : decode cL_law 845 = .ok (.iconst 0, 1) := by decide +kernel
theorem dL_law_846 : decode cL_law 846 = .ok (.ireturn, 1) := by decide +kernel
theorem dL_law_847 : decode cL_law 847 = .ok (.aload_n 1, 1) := by decide +kernel
theorem dL_law_848 : decode cL_law 848 = .ok (.aload_n 0, 1) := by decide +kernel
theorem dL_law_849 : decode cL_law 849 = .ok (.iload_n 3, 1) := by decide +kernel
theorem dL_law_850 : decode cL_law 850 = .ok (.iconst 1, 1) := by decide +kernel
theorem dL_law_851 : decode cL_law 851 = .ok (.iadd, 1) := by decide +kernel
theorem dL_law_852 : decode cL_law 852 = .ok (.iaload, 1) := by decide +kernel
theorem dL_law_853 : decode cL_law 853 = .ok (.invokevirtual 118, 3) := by decide +kernel
theorem dL_law_856 : decode cL_law 856 = .ok (.aload_n 2, 1) := by decide +kernel
theorem dL_law_857 : decode cL_law 857 = .ok (.aload_n 0, 1) := by decide +kernel
theorem dL_law_858 : decode cL_law 858 = .ok (.iload_n 3, 1) := by decide +kernel
theorem dL_law_859 : decode cL_law 859 = .ok (.iconst 1, 1) := by decide +kernel
theorem dL_law_860 : decode cL_law 860 = .ok (.iadd, 1) := by decide +kernel
theorem dL_law_861 : decode cL_law 861 = .ok (.iaload, 1) := by decide +kernel
theorem dL_law_862 : decode cL_law 862 = .ok (.invokevirtual 121, 3) := by decide +kernel
theorem dL_law_865 : decode cL_law 865 = .ok (.if_icmp .eq 130, 3) := by decide +kernel
theorem dL_law_868 : decode cL_law 868 = .ok (.iconst 0, 1) := by decide +kernel
theorem dL_law_869 : decode cL_law 869 = .ok (.ireturn, 1) := by decide +kernel
theorem dL_law_870 : decode cL_law 870 = .ok (.aload_n 1, 1) := by decide +kernel
theorem dL_law_871 : decode cL_law 871 = .ok (.aload_n 0, 1) := by decide +kernel
theorem dL_law_872 : decode cL_law 872 = .ok (.iload_n 3, 1) := by decide +kernel
theorem dL_law_873 : decode cL_law 873 = .ok (.iconst 1, 1) := by decide +kernel
theorem dL_law_874 : decode cL_law 874 = .ok (.iadd, 1) := by decide +kernel
theorem dL_law_875 : decode cL_law 875 = .ok (.iaload, 1) := by decide +kernel
theorem dL_law_876 : decode cL_law 876 = .ok (.aload_n 0, 1) := by decide +kernel
theorem dL_law_877 : decode cL_law 877 = .ok (.iload_n 3, 1) := by decide +kernel
theorem dL_law_878 : decode cL_law 878 = .ok (.iconst 2, 1) := by decide +kernel
theorem dL_law_879 : decode cL_law 879 = .ok (.iadd, 1) := by decide +kernel
theorem dL_law_880 : decode cL_law 880 = .ok (.iaload, 1) := by decide +kernel
theorem dL_law_881 : decode cL_law 881 = .ok (.invokevirtual 122, 3) := by decide +kernel
theorem dL_law_884 : decode cL_law 884 = .ok (.aload_n 2, 1) := by decide +kernel
theorem dL_law_885 : decode cL_law 885 = .ok (.aload_n 0, 1) := by decide +kernel
theorem dL_law_886 : decode cL_law 886 = .ok (.iload_n 3, 1) := by decide +kernel
theorem dL_law_887 : decode cL_law 887 = .ok (.iconst 1, 1) := by decide +kernel
theorem dL_law_888 : decode cL_law 888 = .ok (.iadd, 1) := by decide +kernel
theorem dL_law_889 : decode cL_law 889 = .ok (.iaload, 1) := by decide +kernel
theorem dL_law_890 : decode cL_law 890 = .ok (.aload_n 0, 1) := by decide +kernel
theorem dL_law_891 : decode cL_law 891 = .ok (.iload_n 3, 1) := by decide +kernel
theorem dL_law_892 : decode cL_law 892 = .ok (.iconst 2, 1) := by decide +kernel
theorem dL_law_893 : decode cL_law 893 = .ok (.iadd, 1) := by decide +kernel
theorem dL_law_894 : decode cL_law 894 = .ok (.iaload, 1) := by decide +kernel
theorem dL_law_895 : decode cL_law 895 = .ok (.invokevirtual 125, 3) := by decide +kernel
theorem dL_law_898 : decode cL_law 898 = .ok (.if_icmp .eq 97, 3) := by decide +kernel
theorem dL_law_901 : decode cL_law 901 = .ok (.iconst 0, 1) := by decide +kernel
theorem dL_law_902 : decode cL_law 902 = .ok (.ireturn, 1) := by decide +kernel
theorem dL_law_903 : decode cL_law 903 = .ok (.aload_n 1, 1) := by decide +kernel
theorem dL_law_904 : decode cL_law 904 = .ok (.aload_n 0, 1) := by decide +kernel
theorem dL_law_905 : decode cL_law 905 = .ok (.iload_n 3, 1) := by decide +kernel
theorem dL_law_906 : decode cL_law 906 = .ok (.iconst 1, 1) := by decide +kernel
theorem dL_law_907 : decode cL_law 907 = .ok (.iadd, 1) := by decide +kernel
theorem dL_law_908 : decode cL_law 908 = .ok (.iaload, 1) := by decide +kernel
theorem dL_law_909 : decode cL_law 909 = .ok (.aload_n 0, 1) := by decide +kernel
theorem dL_law_910 : decode cL_law 910 = .ok (.iload_n 3, 1) := by decide +kernel
theorem dL_law_911 : decode cL_law 911 = .ok (.iconst 2, 1) := by decide +kernel
theorem dL_law_912 : decode cL_law 912 = .ok (.iadd, 1) := by decide +kernel
theorem dL_law_913 : decode cL_law 913 = .ok (.iaload, 1) := by decide +kernel
theorem dL_law_914 : decode cL_law 914 = .ok (.invokevirtual 126, 3) := by decide +kernel
theorem dL_law_917 : decode cL_law 917 = .ok (.aload_n 2, 1) := by decide +kernel
theorem dL_law_918 : decode cL_law 918 = .ok (.aload_n 0, 1) := by decide +kernel
theorem dL_law_919 : decode cL_law 919 = .ok (.iload_n 3, 1) := by decide +kernel
theorem dL_law_920 : decode cL_law 920 = .ok (.iconst 1, 1) := by decide +kernel
theorem dL_law_921 : decode cL_law 921 = .ok (.iadd, 1) := by decide +kernel
theorem dL_law_922 : decode cL_law 922 = .ok (.iaload, 1) := by decide +kernel
theorem dL_law_923 : decode cL_law 923 = .ok (.aload_n 0, 1) := by decide +kernel
theorem dL_law_924 : decode cL_law 924 = .ok (.iload_n 3, 1) := by decide +kernel
theorem dL_law_925 : decode cL_law 925 = .ok (.iconst 2, 1) := by decide +kernel
theorem dL_law_926 : decode cL_law 926 = .ok (.iadd, 1) := by decide +kernel
theorem dL_law_927 : decode cL_law 927 = .ok (.iaload, 1) := by decide +kernel
theorem dL_law_928 : decode cL_law 928 = .ok (.invokevirtual 129, 3) := by decide +kernel
theorem dL_law_931 : decode cL_law 931 = .ok (.if_icmp .eq 64, 3) := by decide +kernel
theorem dL_law_934 : decode cL_law 934 = .ok (.iconst 0, 1) := by decide +kernel
theorem dL_law_935 : decode cL_law 935 = .ok (.ireturn, 1) := by decide +kernel
theorem dL_law_936 : decode cL_law 936 = .ok (.aload_n 1, 1) := by decide +kernel
theorem dL_law_937 : decode cL_law 937 = .ok (.aload_n 0, 1) := by decide +kernel
theorem dL_law_938 : decode cL_law 938 = .ok (.iload_n 3, 1) := by decide +kernel
theorem dL_law_939 : decode cL_law 939 = .ok (.iconst 1, 1) := by decide +kernel
theorem dL_law_940 : decode cL_law 940 = .ok (.iadd, 1) := by decide +kernel
theorem dL_law_941 : decode cL_law 941 = .ok (.iaload, 1) := by decide +kernel
theorem dL_law_942 : decode cL_law 942 = .ok (.invokevirtual 130, 3) := by decide +kernel
theorem dL_law_945 : decode cL_law 945 = .ok (.aload_n 2, 1) := by decide +kernel
theorem dL_law_946 : decode cL_law 946 = .ok (.aload_n 0, 1) := by decide +kernel
theorem dL_law_947 : decode cL_law 947 = .ok (.iload_n 3, 1) := by decide +kernel
theorem dL_law_948 : decode cL_law 948 = .ok (.iconst 1, 1) := by decide +kernel
theorem dL_law_949 : decode cL_law 949 = .ok (.iadd, 1) := by decide +kernel
theorem dL_law_950 : decode cL_law 950 = .ok (.iaload, 1) := by decide +kernel
theorem dL_law_951 : decode cL_law 951 = .ok (.invokevirtual 133, 3) := by decide +kernel
theorem dL_law_954 : decode cL_law 954 = .ok (.if_icmp .eq 41, 3) := by decide +kernel
theorem dL_law_957 : decode cL_law 957 = .ok (.iconst 0, 1) := by decide +kernel
theorem dL_law_958 : decode cL_law 958 = .ok (.ireturn, 1) := by decide +kernel
theorem dL_law_959 : decode cL_law 959 = .ok (.aload_n 1, 1) := by decide +kernel
theorem dL_law_960 : decode cL_law 960 = .ok (.aload_n 0, 1) := by decide +kernel
theorem dL_law_961 : decode cL_law 961 = .ok (.iload_n 3, 1) := by decide +kernel
theorem dL_law_962 : decode cL_law 962 = .ok (.iconst 1, 1) := by decide +kernel
theorem dL_law_963 : decode cL_law 963 = .ok (.iadd, 1) := by decide +kernel
theorem dL_law_964 : decode cL_law 964 = .ok (.iaload, 1) := by decide +kernel
theorem dL_law_965 : decode cL_law 965 = .ok (.invokevirtual 134, 3) := by decide +kernel
theorem dL_law_968 : decode cL_law 968 = .ok (.aload_n 2, 1) := by decide +kernel
theorem dL_law_969 : decode cL_law 969 = .ok (.aload_n 0, 1) := by decide +kernel
theorem dL_law_970 : decode cL_law 970 = .ok (.iload_n 3, 1) := by decide +kernel
theorem dL_law_971 : decode cL_law 971 = .ok (.iconst 1, 1) := by decide +kernel
theorem dL_law_972 : decode cL_law 972 = .ok (.iadd, 1) := by decide +kernel
theorem dL_law_973 : decode cL_law 973 = .ok (.iaload, 1) := by decide +kernel
theorem dL_law_974 : decode cL_law 974 = .ok (.invokevirtual 137, 3) := by decide +kernel
theorem dL_law_977 : decode cL_law 977 = .ok (.if_icmp .eq 18, 3) := by decide +kernel
theorem dL_law_980 : decode cL_law 980 = .ok (.iconst 0, 1) := by decide +kernel
theorem dL_law_981 : decode cL_law 981 = .ok (.ireturn, 1) := by decide +kernel
theorem dL_law_982 : decode cL_law 982 = .ok (.aload_n 1, 1) := by decide +kernel
theorem dL_law_983 : decode cL_law 983 = .ok (.invokevirtual 138, 3) := by decide +kernel
theorem dL_law_986 : decode cL_law 986 = .ok (.aload_n 2, 1) := by decide +kernel
theorem dL_law_987 : decode cL_law 987 = .ok (.invokevirtual 141, 3) := by decide +kernel
theorem dL_law_990 : decode cL_law 990 = .ok (.if_icmp .eq 5, 3) := by decide +kernel
theorem dL_law_993 : decode cL_law 993 = .ok (.iconst 0, 1) := by decide +kernel
theorem dL_law_994 : decode cL_law 994 = .ok (.ireturn, 1) := by decide +kernel
theorem dL_law_995 : decode cL_law 995 = .ok (.iinc 3 6, 3) := by decide +kernel
theorem dL_law_998 : decode cL_law 998 = .ok (.goto (-980), 3) := by decide +kernel
theorem dL_law_1001 : decode cL_law 1001 = .ok (.iconst 1, 1) := by decide +kernel
theorem dL_law_1002 : decode cL_law 1002 = .ok (.ireturn, 1) := by decide +kernel
