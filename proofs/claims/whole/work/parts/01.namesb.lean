theorem dX0_init_0 : decode cX0_init 0 = .ok (.aload_n 0, 1) := by decide +kernel
theorem dX0_init_1 : decode cX0_init 1 = .ok (.invokespecial 1, 3) := by decide +kernel
theorem dX0_init_4 : decode cX0_init 4 = .ok (.aload_n 0, 1) := by decide +kernel
theorem dX0_init_5 : decode cX0_init 5 = .ok (.bipush 24, 2) := by decide +kernel
theorem dX0_init_7 : decode cX0_init 7 = .ok (.anewarray 9, 3) := by decide +kernel
theorem dX0_init_10 : decode cX0_init 10 = .ok (.putfield 11, 3) := by decide +kernel
theorem dX0_init_13 : decode cX0_init 13 = .ok (.return_, 1) := by decide +kernel
theorem dX0_keep_0 : decode cX0_keep 0 = .ok (.aload_n 0, 1) := by decide +kernel
theorem dX0_keep_1 : decode cX0_keep 1 = .ok (.getfield 11, 3) := by decide +kernel
theorem dX0_keep_4 : decode cX0_keep 4 = .ok (.aload_n 0, 1) := by decide +kernel
theorem dX0_keep_5 : decode cX0_keep 5 = .ok (.getfield 15, 3) := by decide +kernel
theorem dX0_keep_8 : decode cX0_keep 8 = .ok (.aaload, 1) := by decide +kernel
theorem dX0_keep_9 : decode cX0_keep 9 = .ok (.ifnonnull 19, 3) := by decide +kernel
theorem dX0_keep_12 : decode cX0_keep 12 = .ok (.aload_n 0, 1) := by decide +kernel
theorem dX0_keep_13 : decode cX0_keep 13 = .ok (.getfield 11, 3) := by decide +kernel
theorem dX0_keep_16 : decode cX0_keep 16 = .ok (.aload_n 0, 1) := by decide +kernel
theorem dX0_keep_17 : decode cX0_keep 17 = .ok (.getfield 15, 3) := by decide +kernel
theorem dX0_keep_20 : decode cX0_keep 20 = .ok (.new 9, 3) := by decide +kernel
theorem dX0_keep_23 : decode cX0_keep 23 = .ok (.dup, 1) := by decide +kernel
theorem dX0_keep_24 : decode cX0_keep 24 = .ok (.invokespecial 19, 3) := by decide +kernel
theorem dX0_keep_27 : decode cX0_keep 27 = .ok (.aastore, 1) := by decide +kernel
theorem dX0_keep_28 : decode cX0_keep 28 = .ok (.aload_n 0, 1) := by decide +kernel
theorem dX0_keep_29 : decode cX0_keep 29 = .ok (.getfield 11, 3) := by decide +kernel
theorem dX0_keep_32 : decode cX0_keep 32 = .ok (.aload_n 0, 1) := by decide +kernel
theorem dX0_keep_33 : decode cX0_keep 33 = .ok (.getfield 15, 3) := by decide +kernel
theorem dX0_keep_36 : decode cX0_keep 36 = .ok (.aaload, 1) := by decide +kernel
theorem dX0_keep_37 : decode cX0_keep 37 = .ok (.aload_n 1, 1) := by decide +kernel
theorem dX0_keep_38 : decode cX0_keep 38 = .ok (.invokevirtual 20, 3) := by decide +kernel
theorem dX0_keep_41 : decode cX0_keep 41 = .ok (.aload_n 0, 1) := by decide +kernel
theorem dX0_keep_42 : decode cX0_keep 42 = .ok (.aload_n 0, 1) := by decide +kernel
theorem dX0_keep_43 : decode cX0_keep 43 = .ok (.getfield 15, 3) := by decide +kernel
theorem dX0_keep_46 : decode cX0_keep 46 = .ok (.iconst 1, 1) := by decide +kernel
theorem dX0_keep_47 : decode cX0_keep 47 = .ok (.iadd, 1) := by decide +kernel
theorem dX0_keep_48 : decode cX0_keep 48 = .ok (.bipush 24, 2) := by decide +kernel
theorem dX0_keep_50 : decode cX0_keep 50 = .ok (.irem, 1) := by decide +kernel
theorem dX0_keep_51 : decode cX0_keep 51 = .ok (.putfield 15, 3) := by decide +kernel
theorem dX0_keep_54 : decode cX0_keep 54 = .ok (.aload_n 0, 1) := by decide +kernel
theorem dX0_keep_55 : decode cX0_keep 55 = .ok (.aload_n 0, 1) := by decide +kernel
theorem dX0_keep_56 : decode cX0_keep 56 = .ok (.getfield 24, 3) := by decide +kernel
theorem dX0_keep_59 : decode cX0_keep 59 = .ok (.iconst 1, 1) := by decide +kernel
theorem dX0_keep_60 : decode cX0_keep 60 = .ok (.iadd, 1) := by decide +kernel
theorem dX0_keep_61 : decode cX0_keep 61 = .ok (.bipush 24, 2) := by decide +kernel
theorem dX0_keep_63 : decode cX0_keep 63 = .ok (.invokestatic 27, 3) := by decide +kernel
theorem dX0_keep_66 : decode cX0_keep 66 = .ok (.putfield 24, 3) := by decide +kernel
theorem dX0_keep_69 : decode cX0_keep 69 = .ok (.return_, 1) := by decide +kernel
theorem dX0_takeBack_0 : decode cX0_takeBack 0 = .ok (.aload_n 0, 1) := by decide +kernel
theorem dX0_takeBack_1 : decode cX0_takeBack 1 = .ok (.getfield 15, 3) := by decide +kernel
theorem dX0_takeBack_4 : decode cX0_takeBack 4 = .ok (.bipush 24, 2) := by decide +kernel
theorem dX0_takeBack_6 : decode cX0_takeBack 6 = .ok (.iadd, 1) := by decide +kernel
theorem dX0_takeBack_7 : decode cX0_takeBack 7 = .ok (.iconst 1, 1) := by decide +kernel
theorem dX0_takeBack_8 : decode cX0_takeBack 8 = .ok (.isub, 1) := by decide +kernel
theorem dX0_takeBack_9 : decode cX0_takeBack 9 = .ok (.bipush 24, 2) := by decide +kernel
theorem dX0_takeBack_11 : decode cX0_takeBack 11 = .ok (.irem, 1) := by decide +kernel
theorem dX0_takeBack_12 : decode cX0_takeBack 12 = .ok (.istore_n 2, 1) := by decide +kernel
theorem dX0_takeBack_13 : decode cX0_takeBack 13 = .ok (.aload_n 0, 1) := by decide +kernel
theorem dX0_takeBack_14 : decode cX0_takeBack 14 = .ok (.getfield 24, 3) := by decide +kernel
theorem dX0_takeBack_17 : decode cX0_takeBack 17 = .ok (.ifCond .eq 12, 3) := by decide +kernel
theorem dX0_takeBack_20 : decode cX0_takeBack 20 = .ok (.aload_n 0, 1) := by decide +kernel
theorem dX0_takeBack_21 : decode cX0_takeBack 21 = .ok (.getfield 11, 3) := by decide +kernel
theorem dX0_takeBack_24 : decode cX0_takeBack 24 = .ok (.iload_n 2, 1) := by decide +kernel
theorem dX0_takeBack_25 : decode cX0_takeBack 25 = .ok (.aaload, 1) := by decide +kernel
theorem dX0_takeBack_26 : decode cX0_takeBack 26 = .ok (.ifnonnull 4, 3) := by decide +kernel
theorem dX0_takeBack_29 : decode cX0_takeBack 29 = .ok (.return_, 1) := by decide +kernel
theorem dX0_takeBack_30 : decode cX0_takeBack 30 = .ok (.aload_n 1, 1) := by decide +kernel
theorem dX0_takeBack_31 : decode cX0_takeBack 31 = .ok (.aload_n 0, 1) := by decide +kernel
theorem dX0_takeBack_32 : decode cX0_takeBack 32 = .ok (.getfield 11, 3) := by decide +kernel
theorem dX0_takeBack_35 : decode cX0_takeBack 35 = .ok (.iload_n 2, 1) := by decide +kernel
theorem dX0_takeBack_36 : decode cX0_takeBack 36 = .ok (.aaload, 1) := by decide +kernel
theorem dX0_takeBack_37 : decode cX0_takeBack 37 = .ok (.invokevirtual 20, 3) := by decide +kernel
theorem dX0_takeBack_40 : decode cX0_takeBack 40 = .ok (.aload_n 0, 1) := by decide +kernel
theorem dX0_takeBack_41 : decode cX0_takeBack 41 = .ok (.iload_n 2, 1) := by decide +kernel
theorem dX0_takeBack_42 : decode cX0_takeBack 42 = .ok (.putfield 15, 3) := by decide +kernel
theorem dX0_takeBack_45 : decode cX0_takeBack 45 = .ok (.aload_n 0, 1) := by decide +kernel
theorem dX0_takeBack_46 : decode cX0_takeBack 46 = .ok (.dup, 1) := by decide +kernel
theorem dX0_takeBack_47 : decode cX0_takeBack 47 = .ok (.getfield 24, 3) := by decide +kernel
theorem dX0_takeBack_50 : decode cX0_takeBack 50 = .ok (.iconst 1, 1) := by decide +kernel
theorem dX0_takeBack_51 : decode cX0_takeBack 51 = .ok (.isub, 1) := by decide +kernel
theorem dX0_takeBack_52 : decode cX0_takeBack 52 = .ok (.putfield 24, 3) := by decide +kernel
theorem dX0_takeBack_55 : decode cX0_takeBack 55 = .ok (.return_, 1) := by decide +kernel
theorem dX0_forget_0 : decode cX0_forget 0 = .ok (.aload_n 0, 1) := by decide +kernel
theorem dX0_forget_1 : decode cX0_forget 1 = .ok (.iconst 0, 1) := by decide +kernel
theorem dX0_forget_2 : decode cX0_forget 2 = .ok (.putfield 24, 3) := by decide +kernel
theorem dX0_forget_5 : decode cX0_forget 5 = .ok (.return_, 1) := by decide +kernel
theorem dX1_init_0 : decode cX1_init 0 = .ok (.aload_n 0, 1) := by decide +kernel
theorem dX1_init_1 : decode cX1_init 1 = .ok (.invokespecial 3, 3) := by decide +kernel
theorem dX1_init_4 : decode cX1_init 4 = .ok (.aload_n 0, 1) := by decide +kernel
theorem dX1_init_5 : decode cX1_init 5 = .ok (.bipush 16, 2) := by decide +kernel
theorem dX1_init_7 : decode cX1_init 7 = .ok (.newarray .int, 2) := by decide +kernel
theorem dX1_init_9 : decode cX1_init 9 = .ok (.putfield 11, 3) := by decide +kernel
theorem dX1_init_12 : decode cX1_init 12 = .ok (.return_, 1) := by decide +kernel
theorem dX1_isSuch_0 : decode cX1_isSuch 0 = .ok (.iload_n 0, 1) := by decide +kernel
theorem dX1_isSuch_1 : decode cX1_isSuch 1 = .ok (.istore_n 2, 1) := by decide +kernel
theorem dX1_isSuch_2 : decode cX1_isSuch 2 = .ok (.iconst 0, 1) := by decide +kernel
theorem dX1_isSuch_3 : decode cX1_isSuch 3 = .ok (.istore_n 3, 1) := by decide +kernel
theorem dX1_isSuch_4 : decode cX1_isSuch 4 = .ok (.iload_n 3, 1) := by decide +kernel
theorem dX1_isSuch_5 : decode cX1_isSuch 5 = .ok (.bipush 6, 2) := by decide +kernel
theorem dX1_isSuch_7 : decode cX1_isSuch 7 = .ok (.if_icmp .ge 26, 3) := by decide +kernel
theorem dX1_isSuch_10 : decode cX1_isSuch 10 = .ok (.iload_n 2, 1) := by decide +kernel
theorem dX1_isSuch_11 : decode cX1_isSuch 11 = .ok (.ifCond .lt 22, 3) := by decide +kernel
theorem dX1_isSuch_14 : decode cX1_isSuch 14 = .ok (.iload_n 2, 1) := by decide +kernel
theorem dX1_isSuch_15 : decode cX1_isSuch 15 = .ok (.iload_n 1, 1) := by decide +kernel
theorem dX1_isSuch_16 : decode cX1_isSuch 16 = .ok (.if_icmp .ne 5, 3) := by decide +kernel
theorem dX1_isSuch_19 : decode cX1_isSuch 19 = .ok (.iconst 1, 1) := by decide +kernel
theorem dX1_isSuch_20 : decode cX1_isSuch 20 = .ok (.ireturn, 1) := by decide +kernel
theorem dX1_isSuch_21 : decode cX1_isSuch 21 = .ok (.getstatic 15, 3) := by decide +kernel
theorem dX1_isSuch_24 : decode cX1_isSuch 24 = .ok (.iload_n 2, 1) := by decide +kernel
theorem dX1_isSuch_25 : decode cX1_isSuch 25 = .ok (.iaload, 1) := by decide +kernel
theorem dX1_isSuch_26 : decode cX1_isSuch 26 = .ok (.istore_n 2, 1) := by decide +kernel
theorem dX1_isSuch_27 : decode cX1_isSuch 27 = .ok (.iinc 3 1, 3) := by decide +kernel
theorem dX1_isSuch_30 : decode cX1_isSuch 30 = .ok (.goto (-26), 3) := by decide +kernel
theorem dX1_isSuch_33 : decode cX1_isSuch 33 = .ok (.iconst 0, 1) := by decide +kernel
theorem dX1_isSuch_34 : decode cX1_isSuch 34 = .ok (.ireturn, 1) := by decide +kernel
theorem dX1_answer_0 : decode cX1_answer 0 = .ok (.aload_n 0, 1) := by decide +kernel
theorem dX1_answer_1 : decode cX1_answer 1 = .ok (.iconst 0, 1) := by decide +kernel
theorem dX1_answer_2 : decode cX1_answer 2 = .ok (.putfield 18, 3) := by decide +kernel
theorem dX1_answer_5 : decode cX1_answer 5 = .ok (.iload_n 3, 1) := by decide +kernel
theorem dX1_answer_6 : decode cX1_answer 6 = .ok (.ifCond .ne 11, 3) := by decide +kernel
theorem dX1_answer_9 : decode cX1_answer 9 = .ok (.aload_n 0, 1) := by decide +kernel
theorem dX1_answer_10 : decode cX1_answer 10 = .ok (.aload_n 1, 1) := by decide +kernel
theorem dX1_answer_11 : decode cX1_answer 11 = .ok (.iload_n 2, 1) := by decide +kernel
theorem dX1_answer_12 : decode cX1_answer 12 = .ok (.iconst 0, 1) := by decide +kernel
theorem dX1_answer_13 : decode cX1_answer 13 = .ok (.invokevirtual 22, 3) := by decide +kernel
theorem dX1_answer_16 : decode cX1_answer 16 = .ok (.ireturn, 1) := by decide +kernel
theorem dX1_answer_17 : decode cX1_answer 17 = .ok (.aload_n 0, 1) := by decide +kernel
theorem dX1_answer_18 : decode cX1_answer 18 = .ok (.aload_n 1, 1) := by decide +kernel
theorem dX1_answer_19 : decode cX1_answer 19 = .ok (.iload_n 2, 1) := by decide +kernel
theorem dX1_answer_20 : decode cX1_answer 20 = .ok (.iconst 0, 1) := by decide +kernel
theorem dX1_answer_21 : decode cX1_answer 21 = .ok (.invokevirtual 26, 3) := by decide +kernel
theorem dX1_answer_24 : decode cX1_answer 24 = .ok (.ireturn, 1) := by decide +kernel
theorem dX1_sizeOf_0 : decode cX1_sizeOf 0 = .ok (.aload_n 0, 1) := by decide +kernel
theorem dX1_sizeOf_1 : decode cX1_sizeOf 1 = .ok (.getstatic 29, 3) := by decide +kernel
theorem dX1_sizeOf_4 : decode cX1_sizeOf 4 = .ok (.aload_n 1, 1) := by decide +kernel
theorem dX1_sizeOf_5 : decode cX1_sizeOf 5 = .ok (.getfield 32, 3) := by decide +kernel
theorem dX1_sizeOf_8 : decode cX1_sizeOf 8 = .ok (.invokestatic 37, 3) := by decide +kernel
theorem dX1_sizeOf_11 : decode cX1_sizeOf 11 = .ok (.aload_n 1, 1) := by decide +kernel
theorem dX1_sizeOf_12 : decode cX1_sizeOf 12 = .ok (.iload_n 2, 1) := by decide +kernel
theorem dX1_sizeOf_13 : decode cX1_sizeOf 13 = .ok (.iload_n 3, 1) := by decide +kernel
theorem dX1_sizeOf_14 : decode cX1_sizeOf 14 = .ok (.invokevirtual 41, 3) := by decide +kernel
theorem dX1_sizeOf_17 : decode cX1_sizeOf 17 = .ok (.ireturn, 1) := by decide +kernel
theorem dX1_markOf_0 : decode cX1_markOf 0 = .ok (.aload_n 0, 1) := by decide +kernel
theorem dX1_markOf_1 : decode cX1_markOf 1 = .ok (.getstatic 45, 3) := by decide +kernel
theorem dX1_markOf_4 : decode cX1_markOf 4 = .ok (.aload_n 1, 1) := by decide +kernel
theorem dX1_markOf_5 : decode cX1_markOf 5 = .ok (.getfield 32, 3) := by decide +kernel
theorem dX1_markOf_8 : decode cX1_markOf 8 = .ok (.invokestatic 37, 3) := by decide +kernel
theorem dX1_markOf_11 : decode cX1_markOf 11 = .ok (.aload_n 1, 1) := by decide +kernel
theorem dX1_markOf_12 : decode cX1_markOf 12 = .ok (.iload_n 2, 1) := by decide +kernel
theorem dX1_markOf_13 : decode cX1_markOf 13 = .ok (.iload_n 3, 1) := by decide +kernel
theorem dX1_markOf_14 : decode cX1_markOf 14 = .ok (.invokevirtual 41, 3) := by decide +kernel
theorem dX1_markOf_17 : decode cX1_markOf 17 = .ok (.ireturn, 1) := by decide +kernel
theorem dX1_nearest_0 : decode cX1_nearest 0 = .ok (.iload_n 1, 1) := by decide +kernel
theorem dX1_nearest_1 : decode cX1_nearest 1 = .ok (.istore_n 2, 1) := by decide +kernel
theorem dX1_nearest_2 : decode cX1_nearest 2 = .ok (.iconst 0, 1) := by decide +kernel
theorem dX1_nearest_3 : decode cX1_nearest 3 = .ok (.istore_n 3, 1) := by decide +kernel
theorem dX1_nearest_4 : decode cX1_nearest 4 = .ok (.iload_n 3, 1) := by decide +kernel
theorem dX1_nearest_5 : decode cX1_nearest 5 = .ok (.bipush 6, 2) := by decide +kernel
theorem dX1_nearest_7 : decode cX1_nearest 7 = .ok (.if_icmp .ge 25, 3) := by decide +kernel
theorem dX1_nearest_10 : decode cX1_nearest 10 = .ok (.iload_n 2, 1) := by decide +kernel
theorem dX1_nearest_11 : decode cX1_nearest 11 = .ok (.ifCond .le 21, 3) := by decide +kernel
theorem dX1_nearest_14 : decode cX1_nearest 14 = .ok (.aload_n 0, 1) := by decide +kernel
theorem dX1_nearest_15 : decode cX1_nearest 15 = .ok (.iload_n 2, 1) := by decide +kernel
theorem dX1_nearest_16 : decode cX1_nearest 16 = .ok (.iaload, 1) := by decide +kernel
theorem dX1_nearest_17 : decode cX1_nearest 17 = .ok (.ifCond .ne 15, 3) := by decide +kernel
theorem dX1_nearest_20 : decode cX1_nearest 20 = .ok (.getstatic 15, 3) := by decide +kernel
theorem dX1_nearest_23 : decode cX1_nearest 23 = .ok (.iload_n 2, 1) := by decide +kernel
theorem dX1_nearest_24 : decode cX1_nearest 24 = .ok (.iaload, 1) := by decide +kernel
theorem dX1_nearest_25 : decode cX1_nearest 25 = .ok (.istore_n 2, 1) := by decide +kernel
theorem dX1_nearest_26 : decode cX1_nearest 26 = .ok (.iinc 3 1, 3) := by decide +kernel
theorem dX1_nearest_29 : decode cX1_nearest 29 = .ok (.goto (-25), 3) := by decide +kernel
theorem dX1_nearest_32 : decode cX1_nearest 32 = .ok (.aload_n 0, 1) := by decide +kernel
theorem dX1_nearest_33 : decode cX1_nearest 33 = .ok (.iload_n 2, 1) := by decide +kernel
theorem dX1_nearest_34 : decode cX1_nearest 34 = .ok (.iaload, 1) := by decide +kernel
theorem dX1_nearest_35 : decode cX1_nearest 35 = .ok (.ireturn, 1) := by decide +kernel
theorem dX1_begin_0 : decode cX1_begin 0 = .ok (.iload 4, 2) := by decide +kernel
theorem dX1_begin_2 : decode cX1_begin 2 = .ok (.bipush 16, 2) := by decide +kernel
theorem dX1_begin_4 : decode cX1_begin 4 = .ok (.if_icmp .le 5, 3) := by decide +kernel
theorem dX1_begin_7 : decode cX1_begin 7 = .ok (.iconst 0, 1) := by decide +kernel
theorem dX1_begin_8 : decode cX1_begin 8 = .ok (.ireturn, 1) := by decide +kernel
theorem dX1_begin_9 : decode cX1_begin 9 = .ok (.aload_n 0, 1) := by decide +kernel
theorem dX1_begin_10 : decode cX1_begin 10 = .ok (.iload_n 1, 1) := by decide +kernel
theorem dX1_begin_11 : decode cX1_begin 11 = .ok (.invokevirtual 48, 3) := by decide +kernel
theorem dX1_begin_14 : decode cX1_begin 14 = .ok (.iload 4, 2) := by decide +kernel
theorem dX1_begin_16 : decode cX1_begin 16 = .ok (.iconst 1, 1) := by decide +kernel
theorem dX1_begin_17 : decode cX1_begin 17 = .ok (.iadd, 1) := by decide +kernel
theorem dX1_begin_18 : decode cX1_begin 18 = .ok (.istore 5, 2) := by decide +kernel
theorem dX1_begin_20 : decode cX1_begin 20 = .ok (.iload_n 1, 1) := by decide +kernel
theorem dX1_begin_21 : decode cX1_begin 21 = .ok (.tableswitch 205 10 24 #[75, 80, 100, 112, 126, 205, 205, 205, 205, 205, 139, 141, 157, 172, 192], 75) := by decide +kernel
theorem dX1_begin_96 : decode cX1_begin 96 = .ok (.aload_n 2, 1) := by decide +kernel
theorem dX1_begin_97 : decode cX1_begin 97 = .ok (.getfield 52, 3) := by decide +kernel
theorem dX1_begin_100 : decode cX1_begin 100 = .ok (.ireturn, 1) := by decide +kernel
theorem dX1_begin_101 : decode cX1_begin 101 = .ok (.aload_n 0, 1) := by decide +kernel
theorem dX1_begin_102 : decode cX1_begin 102 = .ok (.bipush 10, 2) := by decide +kernel
theorem dX1_begin_104 : decode cX1_begin 104 = .ok (.aload_n 2, 1) := by decide +kernel
theorem dX1_begin_105 : decode cX1_begin 105 = .ok (.iload_n 3, 1) := by decide +kernel
theorem dX1_begin_106 : decode cX1_begin 106 = .ok (.iload 5, 2) := by decide +kernel
theorem dX1_begin_108 : decode cX1_begin 108 = .ok (.invokevirtual 41, 3) := by decide +kernel
theorem dX1_begin_111 : decode cX1_begin 111 = .ok (.aload_n 0, 1) := by decide +kernel
theorem dX1_begin_112 : decode cX1_begin 112 = .ok (.aload_n 2, 1) := by decide +kernel
theorem dX1_begin_113 : decode cX1_begin 113 = .ok (.iload_n 3, 1) := by decide +kernel
theorem dX1_begin_114 : decode cX1_begin 114 = .ok (.iload 5, 2) := by decide +kernel
theorem dX1_begin_116 : decode cX1_begin 116 = .ok (.invokevirtual 26, 3) := by decide +kernel
theorem dX1_begin_119 : decode cX1_begin 119 = .ok (.iadd, 1) := by decide +kernel
theorem dX1_begin_120 : decode cX1_begin 120 = .ok (.ireturn, 1) := by decide +kernel
theorem dX1_begin_121 : decode cX1_begin 121 = .ok (.aload_n 0, 1) := by decide +kernel
theorem dX1_begin_122 : decode cX1_begin 122 = .ok (.bipush 11, 2) := by decide +kernel
theorem dX1_begin_124 : decode cX1_begin 124 = .ok (.aload_n 2, 1) := by decide +kernel
theorem dX1_begin_125 : decode cX1_begin 125 = .ok (.iload_n 3, 1) := by decide +kernel
theorem dX1_begin_126 : decode cX1_begin 126 = .ok (.iload 5, 2) := by decide +kernel
theorem dX1_begin_128 : decode cX1_begin 128 = .ok (.invokevirtual 41, 3) := by decide +kernel
theorem dX1_begin_131 : decode cX1_begin 131 = .ok (.ineg, 1) := by decide +kernel
theorem dX1_begin_132 : decode cX1_begin 132 = .ok (.ireturn, 1) := by decide +kernel
theorem dX1_begin_133 : decode cX1_begin 133 = .ok (.aload_n 0, 1) := by decide +kernel
theorem dX1_begin_134 : decode cX1_begin 134 = .ok (.bipush 10, 2) := by decide +kernel
theorem dX1_begin_136 : decode cX1_begin 136 = .ok (.aload_n 2, 1) := by decide +kernel
theorem dX1_begin_137 : decode cX1_begin 137 = .ok (.iload_n 3, 1) := by decide +kernel
theorem dX1_begin_138 : decode cX1_begin 138 = .ok (.iload 5, 2) := by decide +kernel
theorem dX1_begin_140 : decode cX1_begin 140 = .ok (.invokevirtual 41, 3) := by decide +kernel
theorem dX1_begin_143 : decode cX1_begin 143 = .ok (.bipush 100, 2) := by decide +kernel
theorem dX1_begin_145 : decode cX1_begin 145 = .ok (.isub, 1) := by decide +kernel
theorem dX1_begin_146 : decode cX1_begin 146 = .ok (.ireturn, 1) := by decide +kernel
theorem dX1_begin_147 : decode cX1_begin 147 = .ok (.iconst 2, 1) := by decide +kernel
theorem dX1_begin_148 : decode cX1_begin 148 = .ok (.aload_n 0, 1) := by decide +kernel
theorem dX1_begin_149 : decode cX1_begin 149 = .ok (.bipush 13, 2) := by decide +kernel
theorem dX1_begin_151 : decode cX1_begin 151 = .ok (.aload_n 2, 1) := by decide +kernel
theorem dX1_begin_152 : decode cX1_begin 152 = .ok (.iload_n 3, 1) := by decide +kernel
theorem dX1_begin_153 : decode cX1_begin 153 = .ok (.iload 5, 2) := by decide +kernel
theorem dX1_begin_155 : decode cX1_begin 155 = .ok (.invokevirtual 41, 3) := by decide +kernel
theorem dX1_begin_158 : decode cX1_begin 158 = .ok (.imul, 1) := by decide +kernel
theorem dX1_begin_159 : decode cX1_begin 159 = .ok (.ireturn, 1) := by decide +kernel
theorem dX1_begin_160 : decode cX1_begin 160 = .ok (.iload_n 3, 1) := by decide +kernel
theorem dX1_begin_161 : decode cX1_begin 161 = .ok (.ireturn, 1) := by decide +kernel
theorem dX1_begin_162 : decode cX1_begin 162 = .ok (.aload_n 0, 1) := by decide +kernel
theorem dX1_begin_163 : decode cX1_begin 163 = .ok (.bipush 20, 2) := by decide +kernel
theorem dX1_begin_165 : decode cX1_begin 165 = .ok (.aload_n 2, 1) := by decide +kernel
theorem dX1_begin_166 : decode cX1_begin 166 = .ok (.iload_n 3, 1) := by decide +kernel
theorem dX1_begin_167 : decode cX1_begin 167 = .ok (.iload 5, 2) := by decide +kernel
theorem dX1_begin_169 : decode cX1_begin 169 = .ok (.invokevirtual 41, 3) := by decide +kernel
theorem dX1_begin_172 : decode cX1_begin 172 = .ok (.aload_n 2, 1) := by decide +kernel
theorem dX1_begin_173 : decode cX1_begin 173 = .ok (.getfield 55, 3) := by decide +kernel
theorem dX1_begin_176 : decode cX1_begin 176 = .ok (.iadd, 1) := by decide +kernel
theorem dX1_begin_177 : decode cX1_begin 177 = .ok (.ireturn, 1) := by decide +kernel
theorem dX1_begin_178 : decode cX1_begin 178 = .ok (.aload_n 0, 1) := by decide +kernel
theorem dX1_begin_179 : decode cX1_begin 179 = .ok (.bipush 21, 2) := by decide +kernel
theorem dX1_begin_181 : decode cX1_begin 181 = .ok (.aload_n 2, 1) := by decide +kernel
theorem dX1_begin_182 : decode cX1_begin 182 = .ok (.iload_n 3, 1) := by decide +kernel
theorem dX1_begin_183 : decode cX1_begin 183 = .ok (.iload 5, 2) := by decide +kernel
theorem dX1_begin_185 : decode cX1_begin 185 = .ok (.invokevirtual 41, 3) := by decide +kernel
theorem dX1_begin_188 : decode cX1_begin 188 = .ok (.sipush 1000, 3) := by decide +kernel
theorem dX1_begin_191 : decode cX1_begin 191 = .ok (.isub, 1) := by decide +kernel
theorem dX1_begin_192 : decode cX1_begin 192 = .ok (.ireturn, 1) := by decide +kernel
theorem dX1_begin_193 : decode cX1_begin 193 = .ok (.aload_n 0, 1) := by decide +kernel
theorem dX1_begin_194 : decode cX1_begin 194 = .ok (.bipush 20, 2) := by decide +kernel
theorem dX1_begin_196 : decode cX1_begin 196 = .ok (.aload_n 2, 1) := by decide +kernel
theorem dX1_begin_197 : decode cX1_begin 197 = .ok (.iload_n 3, 1) := by decide +kernel
theorem dX1_begin_198 : decode cX1_begin 198 = .ok (.iload 5, 2) := by decide +kernel
theorem dX1_begin_200 : decode cX1_begin 200 = .ok (.invokevirtual 41, 3) := by decide +kernel
theorem dX1_begin_203 : decode cX1_begin 203 = .ok (.aload_n 0, 1) := by decide +kernel
theorem dX1_begin_204 : decode cX1_begin 204 = .ok (.aload_n 2, 1) := by decide +kernel
theorem dX1_begin_205 : decode cX1_begin 205 = .ok (.iload_n 3, 1) := by decide +kernel
theorem dX1_begin_206 : decode cX1_begin 206 = .ok (.iload 5, 2) := by decide +kernel
theorem dX1_begin_208 : decode cX1_begin 208 = .ok (.invokevirtual 22, 3) := by decide +kernel
theorem dX1_begin_211 : decode cX1_begin 211 = .ok (.isub, 1) := by decide +kernel
theorem dX1_begin_212 : decode cX1_begin 212 = .ok (.ireturn, 1) := by decide +kernel
theorem dX1_begin_213 : decode cX1_begin 213 = .ok (.iconst 2, 1) := by decide +kernel
theorem dX1_begin_214 : decode cX1_begin 214 = .ok (.aload_n 0, 1) := by decide +kernel
theorem dX1_begin_215 : decode cX1_begin 215 = .ok (.bipush 21, 2) := by decide +kernel
theorem dX1_begin_217 : decode cX1_begin 217 = .ok (.aload_n 2, 1) := by decide +kernel
theorem dX1_begin_218 : decode cX1_begin 218 = .ok (.iload_n 3, 1) := by decide +kernel
theorem dX1_begin_219 : decode cX1_begin 219 = .ok (.iload 5, 2) := by decide +kernel
theorem dX1_begin_221 : decode cX1_begin 221 = .ok (.invokevirtual 41, 3) := by decide +kernel
theorem dX1_begin_224 : decode cX1_begin 224 = .ok (.imul, 1) := by decide +kernel
theorem dX1_begin_225 : decode cX1_begin 225 = .ok (.ireturn, 1) := by decide +kernel
theorem dX1_begin_226 : decode cX1_begin 226 = .ok (.iconst 0, 1) := by decide +kernel
theorem dX1_begin_227 : decode cX1_begin 227 = .ok (.ireturn, 1) := by decide +kernel
theorem dX1_leaveTrace_0 : decode cX1_leaveTrace 0 = .ok (.aload_n 0, 1) := by decide +kernel
theorem dX1_leaveTrace_1 : decode cX1_leaveTrace 1 = .ok (.getfield 18, 3) := by decide +kernel
theorem dX1_leaveTrace_4 : decode cX1_leaveTrace 4 = .ok (.aload_n 0, 1) := by decide +kernel
theorem dX1_leaveTrace_5 : decode cX1_leaveTrace 5 = .ok (.getfield 11, 3) := by decide +kernel
theorem dX1_leaveTrace_8 : decode cX1_leaveTrace 8 = .ok (.arraylength, 1) := by decide +kernel
theorem dX1_leaveTrace_9 : decode cX1_leaveTrace 9 = .ok (.if_icmp .ge 23, 3) := by decide +kernel
theorem dX1_leaveTrace_12 : decode cX1_leaveTrace 12 = .ok (.aload_n 0, 1) := by decide +kernel
theorem dX1_leaveTrace_13 : decode cX1_leaveTrace 13 = .ok (.getfield 11, 3) := by decide +kernel
theorem dX1_leaveTrace_16 : decode cX1_leaveTrace 16 = .ok (.aload_n 0, 1) := by decide +kernel
theorem dX1_leaveTrace_17 : decode cX1_leaveTrace 17 = .ok (.getfield 18, 3) := by decide +kernel
theorem dX1_leaveTrace_20 : decode cX1_leaveTrace 20 = .ok (.iload_n 1, 1) := by decide +kernel
theorem dX1_leaveTrace_21 : decode cX1_leaveTrace 21 = .ok (.iastore, 1) := by decide +kernel
theorem dX1_leaveTrace_22 : decode cX1_leaveTrace 22 = .ok (.aload_n 0, 1) := by decide +kernel
theorem dX1_leaveTrace_23 : decode cX1_leaveTrace 23 = .ok (.dup, 1) := by decide +kernel
theorem dX1_leaveTrace_24 : decode cX1_leaveTrace 24 = .ok (.getfield 18, 3) := by decide +kernel
theorem dX1_leaveTrace_27 : decode cX1_leaveTrace 27 = .ok (.iconst 1, 1) := by decide +kernel
theorem dX1_leaveTrace_28 : decode cX1_leaveTrace 28 = .ok (.iadd, 1) := by decide +kernel
theorem dX1_leaveTrace_29 : decode cX1_leaveTrace 29 = .ok (.putfield 18, 3) := by decide +kernel
theorem dX1_leaveTrace_32 : decode cX1_leaveTrace 32 = .ok (.return_, 1) := by decide +kernel
theorem dX2_init_0 : decode cX2_init 0 = .ok (.aload_n 0, 1) := by decide +kernel
theorem dX2_init_1 : decode cX2_init 1 = .ok (.invokespecial 3, 3) := by decide +kernel
theorem dX2_init_4 : decode cX2_init 4 = .ok (.aload_n 0, 1) := by decide +kernel
theorem dX2_init_5 : decode cX2_init 5 = .ok (.new 9, 3) := by decide +kernel
theorem dX2_init_8 : decode cX2_init 8 = .ok (.dup, 1) := by decide +kernel
theorem dX2_init_9 : decode cX2_init 9 = .ok (.invokespecial 11, 3) := by decide +kernel
theorem dX2_init_12 : decode cX2_init 12 = .ok (.putfield 12, 3) := by decide +kernel
theorem dX2_init_15 : decode cX2_init 15 = .ok (.aload_n 0, 1) := by decide +kernel
theorem dX2_init_16 : decode cX2_init 16 = .ok (.new 9, 3) := by decide +kernel
theorem dX2_init_19 : decode cX2_init 19 = .ok (.dup, 1) := by decide +kernel
theorem dX2_init_20 : decode cX2_init 20 = .ok (.invokespecial 11, 3) := by decide +kernel
theorem dX2_init_23 : decode cX2_init 23 = .ok (.putfield 18, 3) := by decide +kernel
theorem dX2_init_26 : decode cX2_init 26 = .ok (.aload_n 0, 1) := by decide +kernel
theorem dX2_init_27 : decode cX2_init 27 = .ok (.bipush 6, 2) := by decide +kernel
theorem dX2_init_29 : decode cX2_init 29 = .ok (.newarray .int, 2) := by decide +kernel
theorem dX2_init_31 : decode cX2_init 31 = .ok (.putfield 21, 3) := by decide +kernel
theorem dX2_init_34 : decode cX2_init 34 = .ok (.aload_n 0, 1) := by decide +kernel
theorem dX2_init_35 : decode cX2_init 35 = .ok (.bipush 6, 2) := by decide +kernel
theorem dX2_init_37 : decode cX2_init 37 = .ok (.newarray .int, 2) := by decide +kernel
theorem dX2_init_39 : decode cX2_init 39 = .ok (.putfield 25, 3) := by decide +kernel
theorem dX2_init_42 : decode cX2_init 42 = .ok (.aload_n 0, 1) := by decide +kernel
theorem dX2_init_43 : decode cX2_init 43 = .ok (.bipush 6, 2) := by decide +kernel
theorem dX2_init_45 : decode cX2_init 45 = .ok (.newarray .int, 2) := by decide +kernel
theorem dX2_init_47 : decode cX2_init 47 = .ok (.putfield 28, 3) := by decide +kernel
theorem dX2_init_50 : decode cX2_init 50 = .ok (.return_, 1) := by decide +kernel
theorem dX2_walkToHut_0 : decode cX2_walkToHut 0 = .ok (.aload_n 0, 1) := by decide +kernel
theorem dX2_walkToHut_1 : decode cX2_walkToHut 1 = .ok (.getfield 12, 3) := by decide +kernel
theorem dX2_walkToHut_4 : decode cX2_walkToHut 4 = .ok (.aload_n 1, 1) := by decide +kernel
theorem dX2_walkToHut_5 : decode cX2_walkToHut 5 = .ok (.getfield 31, 3) := by decide +kernel
theorem dX2_walkToHut_8 : decode cX2_walkToHut 8 = .ok (.invokevirtual 34, 3) := by decide +kernel
theorem dX2_walkToHut_11 : decode cX2_walkToHut 11 = .ok (.aload_n 0, 1) := by decide +kernel
theorem dX2_walkToHut_12 : decode cX2_walkToHut 12 = .ok (.aload_n 1, 1) := by decide +kernel
theorem dX2_walkToHut_13 : decode cX2_walkToHut 13 = .ok (.iload_n 2, 1) := by decide +kernel
theorem dX2_walkToHut_14 : decode cX2_walkToHut 14 = .ok (.iload_n 3, 1) := by decide +kernel
theorem dX2_walkToHut_15 : decode cX2_walkToHut 15 = .ok (.invokevirtual 38, 3) := by decide +kernel
theorem dX2_walkToHut_18 : decode cX2_walkToHut 18 = .ok (.ireturn, 1) := by decide +kernel
theorem dX2_walkOn_0 : decode cX2_walkOn 0 = .ok (.aload_n 1, 1) := by decide +kernel
theorem dX2_walkOn_1 : decode cX2_walkOn 1 = .ok (.getfield 42, 3) := by decide +kernel
theorem dX2_walkOn_4 : decode cX2_walkOn 4 = .ok (.istore 4, 2) := by decide +kernel
theorem dX2_walkOn_6 : decode cX2_walkOn 6 = .ok (.iload 4, 2) := by decide +kernel
theorem dX2_walkOn_8 : decode cX2_walkOn 8 = .ok (.aload_n 1, 1) := by decide +kernel
theorem dX2_walkOn_9 : decode cX2_walkOn 9 = .ok (.getfield 46, 3) := by decide +kernel
theorem dX2_walkOn_12 : decode cX2_walkOn 12 = .ok (.if_icmp .ge 21, 3) := by decide +kernel
theorem dX2_walkOn_15 : decode cX2_walkOn 15 = .ok (.aload_n 1, 1) := by decide +kernel
theorem dX2_walkOn_16 : decode cX2_walkOn 16 = .ok (.aload_n 0, 1) := by decide +kernel
theorem dX2_walkOn_17 : decode cX2_walkOn 17 = .ok (.getfield 12, 3) := by decide +kernel
theorem dX2_walkOn_20 : decode cX2_walkOn 20 = .ok (.iload 4, 2) := by decide +kernel
theorem dX2_walkOn_22 : decode cX2_walkOn 22 = .ok (.iload_n 2, 1) := by decide +kernel
theorem dX2_walkOn_23 : decode cX2_walkOn 23 = .ok (.iload_n 3, 1) := by decide +kernel
theorem dX2_walkOn_24 : decode cX2_walkOn 24 = .ok (.invokevirtual 49, 3) := by decide +kernel
theorem dX2_walkOn_27 : decode cX2_walkOn 27 = .ok (.iinc 4 1, 3) := by decide +kernel
theorem dX2_walkOn_30 : decode cX2_walkOn 30 = .ok (.goto (-24), 3) := by decide +kernel
theorem dX2_walkOn_33 : decode cX2_walkOn 33 = .ok (.aload_n 0, 1) := by decide +kernel
theorem dX2_walkOn_34 : decode cX2_walkOn 34 = .ok (.getfield 12, 3) := by decide +kernel
theorem dX2_walkOn_37 : decode cX2_walkOn 37 = .ok (.invokevirtual 53, 3) := by decide +kernel
theorem dX2_walkOn_40 : decode cX2_walkOn 40 = .ok (.ireturn, 1) := by decide +kernel
theorem dX2_isApart_0 : decode cX2_isApart 0 = .ok (.iload_n 0, 1) := by decide +kernel
theorem dX2_isApart_1 : decode cX2_isApart 1 = .ok (.bipush 31, 2) := by decide +kernel
theorem dX2_isApart_3 : decode cX2_isApart 3 = .ok (.idiv, 1) := by decide +kernel
theorem dX2_isApart_4 : decode cX2_isApart 4 = .ok (.istore_n 1, 1) := by decide +kernel
theorem dX2_isApart_5 : decode cX2_isApart 5 = .ok (.iload_n 1, 1) := by decide +kernel
theorem dX2_isApart_6 : decode cX2_isApart 6 = .ok (.iconst 1, 1) := by decide +kernel
theorem dX2_isApart_7 : decode cX2_isApart 7 = .ok (.if_icmp .eq 15, 3) := by decide +kernel
theorem dX2_isApart_10 : decode cX2_isApart 10 = .ok (.iload_n 1, 1) := by decide +kernel
theorem dX2_isApart_11 : decode cX2_isApart 11 = .ok (.iconst 2, 1) := by decide +kernel
theorem dX2_isApart_12 : decode cX2_isApart 12 = .ok (.if_icmp .eq 10, 3) := by decide +kernel
theorem dX2_isApart_15 : decode cX2_isApart 15 = .ok (.iload_n 0, 1) := by decide +kernel
theorem dX2_isApart_16 : decode cX2_isApart 16 = .ok (.bipush 31, 2) := by decide +kernel
theorem dX2_isApart_18 : decode cX2_isApart 18 = .ok (.irem, 1) := by decide +kernel
theorem dX2_isApart_19 : decode cX2_isApart 19 = .ok (.ifCond .ne 7, 3) := by decide +kernel
theorem dX2_isApart_22 : decode cX2_isApart 22 = .ok (.iconst 1, 1) := by decide +kernel
theorem dX2_isApart_23 : decode cX2_isApart 23 = .ok (.goto 4, 3) := by decide +kernel
theorem dX2_isApart_26 : decode cX2_isApart 26 = .ok (.iconst 0, 1) := by decide +kernel
theorem dX2_isApart_27 : decode cX2_isApart 27 = .ok (.ireturn, 1) := by decide +kernel
theorem dX2_startSearch_0 : decode cX2_startSearch 0 = .ok (.aload_n 0, 1) := by decide +kernel
theorem dX2_startSearch_1 : decode cX2_startSearch 1 = .ok (.ldc 57, 2) := by decide +kernel
theorem dX2_startSearch_3 : decode cX2_startSearch 3 = .ok (.putfield 58, 3) := by decide +kernel
theorem dX2_startSearch_6 : decode cX2_startSearch 6 = .ok (.aload_n 0, 1) := by decide +kernel
theorem dX2_startSearch_7 : decode cX2_startSearch 7 = .ok (.iconst 0, 1) := by decide +kernel
theorem dX2_startSearch_8 : decode cX2_startSearch 8 = .ok (.putfield 61, 3) := by decide +kernel
theorem dX2_startSearch_11 : decode cX2_startSearch 11 = .ok (.return_, 1) := by decide +kernel
theorem dX2_keepIfLess_0 : decode cX2_keepIfLess 0 = .ok (.iload_n 1, 1) := by decide +kernel
theorem dX2_keepIfLess_1 : decode cX2_keepIfLess 1 = .ok (.aload_n 0, 1) := by decide +kernel
theorem dX2_keepIfLess_2 : decode cX2_keepIfLess 2 = .ok (.getfield 58, 3) := by decide +kernel
theorem dX2_keepIfLess_5 : decode cX2_keepIfLess 5 = .ok (.if_icmp .lt 5, 3) := by decide +kernel
theorem dX2_keepIfLess_8 : decode cX2_keepIfLess 8 = .ok (.iconst 0, 1) := by decide +kernel
theorem dX2_keepIfLess_9 : decode cX2_keepIfLess 9 = .ok (.ireturn, 1) := by decide +kernel
theorem dX2_keepIfLess_10 : decode cX2_keepIfLess 10 = .ok (.aload_n 0, 1) := by decide +kernel
theorem dX2_keepIfLess_11 : decode cX2_keepIfLess 11 = .ok (.iload_n 1, 1) := by decide +kernel
theorem dX2_keepIfLess_12 : decode cX2_keepIfLess 12 = .ok (.putfield 58, 3) := by decide +kernel
theorem dX2_keepIfLess_15 : decode cX2_keepIfLess 15 = .ok (.aload_n 0, 1) := by decide +kernel
theorem dX2_keepIfLess_16 : decode cX2_keepIfLess 16 = .ok (.iload_n 2, 1) := by decide +kernel
theorem dX2_keepIfLess_17 : decode cX2_keepIfLess 17 = .ok (.putfield 61, 3) := by decide +kernel
theorem dX2_keepIfLess_20 : decode cX2_keepIfLess 20 = .ok (.iconst 1, 1) := by decide +kernel
theorem dX2_keepIfLess_21 : decode cX2_keepIfLess 21 = .ok (.ireturn, 1) := by decide +kernel
theorem dX2_bestRule_0 : decode cX2_bestRule 0 = .ok (.iload_n 1, 1) := by decide +kernel
theorem dX2_bestRule_1 : decode cX2_bestRule 1 = .ok (.ifCond .ne 11, 3) := by decide +kernel
theorem dX2_bestRule_4 : decode cX2_bestRule 4 = .ok (.aload_n 0, 1) := by decide +kernel
theorem dX2_bestRule_5 : decode cX2_bestRule 5 = .ok (.getfield 61, 3) := by decide +kernel
theorem dX2_bestRule_8 : decode cX2_bestRule 8 = .ok (.bipush 31, 2) := by decide +kernel
theorem dX2_bestRule_10 : decode cX2_bestRule 10 = .ok (.idiv, 1) := by decide +kernel
theorem dX2_bestRule_11 : decode cX2_bestRule 11 = .ok (.ireturn, 1) := by decide +kernel
theorem dX2_bestRule_12 : decode cX2_bestRule 12 = .ok (.iload_n 1, 1) := by decide +kernel
theorem dX2_bestRule_13 : decode cX2_bestRule 13 = .ok (.iconst 1, 1) := by decide +kernel
theorem dX2_bestRule_14 : decode cX2_bestRule 14 = .ok (.if_icmp .ne 13, 3) := by decide +kernel
theorem dX2_bestRule_17 : decode cX2_bestRule 17 = .ok (.aload_n 0, 1) := by decide +kernel
theorem dX2_bestRule_18 : decode cX2_bestRule 18 = .ok (.getfield 61, 3) := by decide +kernel
theorem dX2_bestRule_21 : decode cX2_bestRule 21 = .ok (.bipush 31, 2) := by decide +kernel
theorem dX2_bestRule_23 : decode cX2_bestRule 23 = .ok (.irem, 1) := by decide +kernel
theorem dX2_bestRule_24 : decode cX2_bestRule 24 = .ok (.goto 7, 3) := by decide +kernel
theorem dX2_bestRule_27 : decode cX2_bestRule 27 = .ok (.aload_n 0, 1) := by decide +kernel
theorem dX2_bestRule_28 : decode cX2_bestRule 28 = .ok (.getfield 58, 3) := by decide +kernel
theorem dX2_bestRule_31 : decode cX2_bestRule 31 = .ok (.ireturn, 1) := by decide +kernel
theorem dX2_findSoonest_0 : decode cX2_findSoonest 0 = .ok (.aload_n 0, 1) := by decide +kernel
theorem dX2_findSoonest_1 : decode cX2_findSoonest 1 = .ok (.invokevirtual 64, 3) := by decide +kernel
theorem dX2_findSoonest_4 : decode cX2_findSoonest 4 = .ok (.iconst 0, 1) := by decide +kernel
theorem dX2_findSoonest_5 : decode cX2_findSoonest 5 = .ok (.istore_n 2, 1) := by decide +kernel
theorem dX2_findSoonest_6 : decode cX2_findSoonest 6 = .ok (.iload_n 2, 1) := by decide +kernel
theorem dX2_findSoonest_7 : decode cX2_findSoonest 7 = .ok (.bipush 124, 2) := by decide +kernel
theorem dX2_findSoonest_9 : decode cX2_findSoonest 9 = .ok (.if_icmp .ge 35, 3) := by decide +kernel
theorem dX2_findSoonest_12 : decode cX2_findSoonest 12 = .ok (.iload_n 2, 1) := by decide +kernel
theorem dX2_findSoonest_13 : decode cX2_findSoonest 13 = .ok (.invokestatic 67, 3) := by decide +kernel
theorem dX2_findSoonest_16 : decode cX2_findSoonest 16 = .ok (.ifCond .eq 22, 3) := by decide +kernel
theorem dX2_findSoonest_19 : decode cX2_findSoonest 19 = .ok (.aload_n 0, 1) := by decide +kernel
theorem dX2_findSoonest_20 : decode cX2_findSoonest 20 = .ok (.aload_n 0, 1) := by decide +kernel
theorem dX2_findSoonest_21 : decode cX2_findSoonest 21 = .ok (.aload_n 1, 1) := by decide +kernel
theorem dX2_findSoonest_22 : decode cX2_findSoonest 22 = .ok (.iload_n 2, 1) := by decide +kernel
theorem dX2_findSoonest_23 : decode cX2_findSoonest 23 = .ok (.bipush 31, 2) := by decide +kernel
theorem dX2_findSoonest_25 : decode cX2_findSoonest 25 = .ok (.idiv, 1) := by decide +kernel
theorem dX2_findSoonest_26 : decode cX2_findSoonest 26 = .ok (.iload_n 2, 1) := by decide +kernel
theorem dX2_findSoonest_27 : decode cX2_findSoonest 27 = .ok (.bipush 31, 2) := by decide +kernel
theorem dX2_findSoonest_29 : decode cX2_findSoonest 29 = .ok (.irem, 1) := by decide +kernel
theorem dX2_findSoonest_30 : decode cX2_findSoonest 30 = .ok (.invokevirtual 71, 3) := by decide +kernel
theorem dX2_findSoonest_33 : decode cX2_findSoonest 33 = .ok (.iload_n 2, 1) := by decide +kernel
theorem dX2_findSoonest_34 : decode cX2_findSoonest 34 = .ok (.invokevirtual 74, 3) := by decide +kernel
theorem dX2_findSoonest_37 : decode cX2_findSoonest 37 = .ok (.pop, 1) := by decide +kernel
theorem dX2_findSoonest_38 : decode cX2_findSoonest 38 = .ok (.iinc 2 1, 3) := by decide +kernel
theorem dX2_findSoonest_41 : decode cX2_findSoonest 41 = .ok (.goto (-35), 3) := by decide +kernel
theorem dX2_findSoonest_44 : decode cX2_findSoonest 44 = .ok (.return_, 1) := by decide +kernel
theorem dX2_findFair_0 : decode cX2_findFair 0 = .ok (.aload_n 0, 1) := by decide +kernel
theorem dX2_findFair_1 : decode cX2_findFair 1 = .ok (.aload_n 1, 1) := by decide +kernel
theorem dX2_findFair_2 : decode cX2_findFair 2 = .ok (.iconst 3, 1) := by decide +kernel
theorem dX2_findFair_3 : decode cX2_findFair 3 = .ok (.iconst 0, 1) := by decide +kernel
theorem dX2_findFair_4 : decode cX2_findFair 4 = .ok (.invokevirtual 71, 3) := by decide +kernel
theorem dX2_findFair_7 : decode cX2_findFair 7 = .ok (.pop, 1) := by decide +kernel
theorem dX2_findFair_8 : decode cX2_findFair 8 = .ok (.iconst 0, 1) := by decide +kernel
theorem dX2_findFair_9 : decode cX2_findFair 9 = .ok (.istore_n 2, 1) := by decide +kernel
theorem dX2_findFair_10 : decode cX2_findFair 10 = .ok (.iload_n 2, 1) := by decide +kernel
theorem dX2_findFair_11 : decode cX2_findFair 11 = .ok (.aload_n 0, 1) := by decide +kernel
theorem dX2_findFair_12 : decode cX2_findFair 12 = .ok (.getfield 12, 3) := by decide +kernel
theorem dX2_findFair_15 : decode cX2_findFair 15 = .ok (.getfield 78, 3) := by decide +kernel
theorem dX2_findFair_18 : decode cX2_findFair 18 = .ok (.if_icmp .ge 27, 3) := by decide +kernel
theorem dX2_findFair_21 : decode cX2_findFair 21 = .ok (.aload_n 0, 1) := by decide +kernel
theorem dX2_findFair_22 : decode cX2_findFair 22 = .ok (.getfield 21, 3) := by decide +kernel
theorem dX2_findFair_25 : decode cX2_findFair 25 = .ok (.iload_n 2, 1) := by decide +kernel
theorem dX2_findFair_26 : decode cX2_findFair 26 = .ok (.aload_n 0, 1) := by decide +kernel
theorem dX2_findFair_27 : decode cX2_findFair 27 = .ok (.getfield 12, 3) := by decide +kernel
theorem dX2_findFair_30 : decode cX2_findFair 30 = .ok (.getfield 81, 3) := by decide +kernel
theorem dX2_findFair_33 : decode cX2_findFair 33 = .ok (.iload_n 2, 1) := by decide +kernel
theorem dX2_findFair_34 : decode cX2_findFair 34 = .ok (.aaload, 1) := by decide +kernel
theorem dX2_findFair_35 : decode cX2_findFair 35 = .ok (.getfield 85, 3) := by decide +kernel
theorem dX2_findFair_38 : decode cX2_findFair 38 = .ok (.iastore, 1) := by decide +kernel
theorem dX2_findFair_39 : decode cX2_findFair 39 = .ok (.iinc 2 1, 3) := by decide +kernel
theorem dX2_findFair_42 : decode cX2_findFair 42 = .ok (.goto (-32), 3) := by decide +kernel
theorem dX2_findFair_45 : decode cX2_findFair 45 = .ok (.aload_n 0, 1) := by decide +kernel
theorem dX2_findFair_46 : decode cX2_findFair 46 = .ok (.invokevirtual 64, 3) := by decide +kernel
theorem dX2_findFair_49 : decode cX2_findFair 49 = .ok (.iconst 0, 1) := by decide +kernel
theorem dX2_findFair_50 : decode cX2_findFair 50 = .ok (.istore_n 2, 1) := by decide +kernel
theorem dX2_findFair_51 : decode cX2_findFair 51 = .ok (.iload_n 2, 1) := by decide +kernel
theorem dX2_findFair_52 : decode cX2_findFair 52 = .ok (.bipush 124, 2) := by decide +kernel
theorem dX2_findFair_54 : decode cX2_findFair 54 = .ok (.if_icmp .ge 40, 3) := by decide +kernel
theorem dX2_findFair_57 : decode cX2_findFair 57 = .ok (.iload_n 2, 1) := by decide +kernel
theorem dX2_findFair_58 : decode cX2_findFair 58 = .ok (.invokestatic 67, 3) := by decide +kernel
theorem dX2_findFair_61 : decode cX2_findFair 61 = .ok (.ifCond .eq 27, 3) := by decide +kernel
theorem dX2_findFair_64 : decode cX2_findFair 64 = .ok (.aload_n 0, 1) := by decide +kernel
theorem dX2_findFair_65 : decode cX2_findFair 65 = .ok (.aload_n 1, 1) := by decide +kernel
theorem dX2_findFair_66 : decode cX2_findFair 66 = .ok (.iload_n 2, 1) := by decide +kernel
theorem dX2_findFair_67 : decode cX2_findFair 67 = .ok (.bipush 31, 2) := by decide +kernel
theorem dX2_findFair_69 : decode cX2_findFair 69 = .ok (.idiv, 1) := by decide +kernel
theorem dX2_findFair_70 : decode cX2_findFair 70 = .ok (.iload_n 2, 1) := by decide +kernel
theorem dX2_findFair_71 : decode cX2_findFair 71 = .ok (.bipush 31, 2) := by decide +kernel
theorem dX2_findFair_73 : decode cX2_findFair 73 = .ok (.irem, 1) := by decide +kernel
theorem dX2_findFair_74 : decode cX2_findFair 74 = .ok (.invokevirtual 71, 3) := by decide +kernel
theorem dX2_findFair_77 : decode cX2_findFair 77 = .ok (.pop, 1) := by decide +kernel
theorem dX2_findFair_78 : decode cX2_findFair 78 = .ok (.aload_n 0, 1) := by decide +kernel
theorem dX2_findFair_79 : decode cX2_findFair 79 = .ok (.aload_n 0, 1) := by decide +kernel
theorem dX2_findFair_80 : decode cX2_findFair 80 = .ok (.invokevirtual 90, 3) := by decide +kernel
theorem dX2_findFair_83 : decode cX2_findFair 83 = .ok (.iload_n 2, 1) := by decide +kernel
theorem dX2_findFair_84 : decode cX2_findFair 84 = .ok (.invokevirtual 74, 3) := by decide +kernel
theorem dX2_findFair_87 : decode cX2_findFair 87 = .ok (.pop, 1) := by decide +kernel
theorem dX2_findFair_88 : decode cX2_findFair 88 = .ok (.iinc 2 1, 3) := by decide +kernel
theorem dX2_findFair_91 : decode cX2_findFair 91 = .ok (.goto (-40), 3) := by decide +kernel
theorem dX2_findFair_94 : decode cX2_findFair 94 = .ok (.return_, 1) := by decide +kernel
theorem dX2_greatestLoss_0 : decode cX2_greatestLoss 0 = .ok (.ldc 93, 2) := by decide +kernel
theorem dX2_greatestLoss_2 : decode cX2_greatestLoss 2 = .ok (.istore_n 1, 1) := by decide +kernel
theorem dX2_greatestLoss_3 : decode cX2_greatestLoss 3 = .ok (.iconst 0, 1) := by decide +kernel
theorem dX2_greatestLoss_4 : decode cX2_greatestLoss 4 = .ok (.istore_n 2, 1) := by decide +kernel
theorem dX2_greatestLoss_5 : decode cX2_greatestLoss 5 = .ok (.iload_n 2, 1) := by decide +kernel
theorem dX2_greatestLoss_6 : decode cX2_greatestLoss 6 = .ok (.aload_n 0, 1) := by decide +kernel
theorem dX2_greatestLoss_7 : decode cX2_greatestLoss 7 = .ok (.getfield 12, 3) := by decide +kernel
theorem dX2_greatestLoss_10 : decode cX2_greatestLoss 10 = .ok (.getfield 78, 3) := by decide +kernel
theorem dX2_greatestLoss_13 : decode cX2_greatestLoss 13 = .ok (.if_icmp .ge 33, 3) := by decide +kernel
theorem dX2_greatestLoss_16 : decode cX2_greatestLoss 16 = .ok (.iload_n 1, 1) := by decide +kernel
theorem dX2_greatestLoss_17 : decode cX2_greatestLoss 17 = .ok (.aload_n 0, 1) := by decide +kernel
theorem dX2_greatestLoss_18 : decode cX2_greatestLoss 18 = .ok (.getfield 12, 3) := by decide +kernel
theorem dX2_greatestLoss_21 : decode cX2_greatestLoss 21 = .ok (.getfield 81, 3) := by decide +kernel
theorem dX2_greatestLoss_24 : decode cX2_greatestLoss 24 = .ok (.iload_n 2, 1) := by decide +kernel
theorem dX2_greatestLoss_25 : decode cX2_greatestLoss 25 = .ok (.aaload, 1) := by decide +kernel
theorem dX2_greatestLoss_26 : decode cX2_greatestLoss 26 = .ok (.getfield 85, 3) := by decide +kernel
theorem dX2_greatestLoss_29 : decode cX2_greatestLoss 29 = .ok (.aload_n 0, 1) := by decide +kernel
theorem dX2_greatestLoss_30 : decode cX2_greatestLoss 30 = .ok (.getfield 21, 3) := by decide +kernel
theorem dX2_greatestLoss_33 : decode cX2_greatestLoss 33 = .ok (.iload_n 2, 1) := by decide +kernel
theorem dX2_greatestLoss_34 : decode cX2_greatestLoss 34 = .ok (.iaload, 1) := by decide +kernel
theorem dX2_greatestLoss_35 : decode cX2_greatestLoss 35 = .ok (.isub, 1) := by decide +kernel
theorem dX2_greatestLoss_36 : decode cX2_greatestLoss 36 = .ok (.invokestatic 94, 3) := by decide +kernel
theorem dX2_greatestLoss_39 : decode cX2_greatestLoss 39 = .ok (.istore_n 1, 1) := by decide +kernel
theorem dX2_greatestLoss_40 : decode cX2_greatestLoss 40 = .ok (.iinc 2 1, 3) := by decide +kernel
theorem dX2_greatestLoss_43 : decode cX2_greatestLoss 43 = .ok (.goto (-38), 3) := by decide +kernel
theorem dX2_greatestLoss_46 : decode cX2_greatestLoss 46 = .ok (.iload_n 1, 1) := by decide +kernel
theorem dX2_greatestLoss_47 : decode cX2_greatestLoss 47 = .ok (.ireturn, 1) := by decide +kernel
theorem dX2_findSacks_0 : decode cX2_findSacks 0 = .ok (.aload_n 1, 1) := by decide +kernel
theorem dX2_findSacks_1 : decode cX2_findSacks 1 = .ok (.getfield 31, 3) := by decide +kernel
theorem dX2_findSacks_4 : decode cX2_findSacks 4 = .ok (.getfield 78, 3) := by decide +kernel
theorem dX2_findSacks_7 : decode cX2_findSacks 7 = .ok (.istore_n 2, 1) := by decide +kernel
theorem dX2_findSacks_8 : decode cX2_findSacks 8 = .ok (.iconst 0, 1) := by decide +kernel
theorem dX2_findSacks_9 : decode cX2_findSacks 9 = .ok (.istore_n 3, 1) := by decide +kernel
theorem dX2_findSacks_10 : decode cX2_findSacks 10 = .ok (.iload_n 3, 1) := by decide +kernel
theorem dX2_findSacks_11 : decode cX2_findSacks 11 = .ok (.iload_n 2, 1) := by decide +kernel
theorem dX2_findSacks_12 : decode cX2_findSacks 12 = .ok (.if_icmp .ge 16, 3) := by decide +kernel
theorem dX2_findSacks_15 : decode cX2_findSacks 15 = .ok (.aload_n 0, 1) := by decide +kernel
theorem dX2_findSacks_16 : decode cX2_findSacks 16 = .ok (.getfield 25, 3) := by decide +kernel
theorem dX2_findSacks_19 : decode cX2_findSacks 19 = .ok (.iload_n 3, 1) := by decide +kernel
theorem dX2_findSacks_20 : decode cX2_findSacks 20 = .ok (.iload_n 3, 1) := by decide +kernel
theorem dX2_findSacks_21 : decode cX2_findSacks 21 = .ok (.iastore, 1) := by decide +kernel
theorem dX2_findSacks_22 : decode cX2_findSacks 22 = .ok (.iinc 3 1, 3) := by decide +kernel
theorem dX2_findSacks_25 : decode cX2_findSacks 25 = .ok (.goto (-15), 3) := by decide +kernel
theorem dX2_findSacks_28 : decode cX2_findSacks 28 = .ok (.aload_n 0, 1) := by decide +kernel
theorem dX2_findSacks_29 : decode cX2_findSacks 29 = .ok (.invokevirtual 64, 3) := by decide +kernel
theorem dX2_findSacks_32 : decode cX2_findSacks 32 = .ok (.iconst 1, 1) := by decide +kernel
theorem dX2_findSacks_33 : decode cX2_findSacks 33 = .ok (.istore_n 3, 1) := by decide +kernel
theorem dX2_findSacks_34 : decode cX2_findSacks 34 = .ok (.iconst 0, 1) := by decide +kernel
theorem dX2_findSacks_35 : decode cX2_findSacks 35 = .ok (.istore 4, 2) := by decide +kernel
theorem dX2_findSacks_37 : decode cX2_findSacks 37 = .ok (.iload 4, 2) := by decide +kernel
theorem dX2_findSacks_39 : decode cX2_findSacks 39 = .ok (.sipush 720, 3) := by decide +kernel
theorem dX2_findSacks_42 : decode cX2_findSacks 42 = .ok (.if_icmp .ge 112, 3) := by decide +kernel
theorem dX2_findSacks_45 : decode cX2_findSacks 45 = .ok (.iload_n 3, 1) := by decide +kernel
theorem dX2_findSacks_46 : decode cX2_findSacks 46 = .ok (.ifCond .eq 108, 3) := by decide +kernel
theorem dX2_findSacks_49 : decode cX2_findSacks 49 = .ok (.aload_n 0, 1) := by decide +kernel
theorem dX2_findSacks_50 : decode cX2_findSacks 50 = .ok (.getfield 12, 3) := by decide +kernel
theorem dX2_findSacks_53 : decode cX2_findSacks 53 = .ok (.aload_n 1, 1) := by decide +kernel
theorem dX2_findSacks_54 : decode cX2_findSacks 54 = .ok (.getfield 31, 3) := by decide +kernel
theorem dX2_findSacks_57 : decode cX2_findSacks 57 = .ok (.invokevirtual 34, 3) := by decide +kernel
theorem dX2_findSacks_60 : decode cX2_findSacks 60 = .ok (.iconst 0, 1) := by decide +kernel
theorem dX2_findSacks_61 : decode cX2_findSacks 61 = .ok (.istore 5, 2) := by decide +kernel
theorem dX2_findSacks_63 : decode cX2_findSacks 63 = .ok (.iload 5, 2) := by decide +kernel
theorem dX2_findSacks_65 : decode cX2_findSacks 65 = .ok (.iload_n 2, 1) := by decide +kernel
theorem dX2_findSacks_66 : decode cX2_findSacks 66 = .ok (.if_icmp .ge 40, 3) := by decide +kernel
theorem dX2_findSacks_69 : decode cX2_findSacks 69 = .ok (.aload_n 0, 1) := by decide +kernel
theorem dX2_findSacks_70 : decode cX2_findSacks 70 = .ok (.getfield 12, 3) := by decide +kernel
theorem dX2_findSacks_73 : decode cX2_findSacks 73 = .ok (.getfield 81, 3) := by decide +kernel
theorem dX2_findSacks_76 : decode cX2_findSacks 76 = .ok (.iload 5, 2) := by decide +kernel
theorem dX2_findSacks_78 : decode cX2_findSacks 78 = .ok (.aaload, 1) := by decide +kernel
theorem dX2_findSacks_79 : decode cX2_findSacks 79 = .ok (.aload_n 1, 1) := by decide +kernel
theorem dX2_findSacks_80 : decode cX2_findSacks 80 = .ok (.getfield 31, 3) := by decide +kernel
theorem dX2_findSacks_83 : decode cX2_findSacks 83 = .ok (.getfield 81, 3) := by decide +kernel
theorem dX2_findSacks_86 : decode cX2_findSacks 86 = .ok (.aload_n 0, 1) := by decide +kernel
theorem dX2_findSacks_87 : decode cX2_findSacks 87 = .ok (.getfield 25, 3) := by decide +kernel
theorem dX2_findSacks_90 : decode cX2_findSacks 90 = .ok (.iload 5, 2) := by decide +kernel
theorem dX2_findSacks_92 : decode cX2_findSacks 92 = .ok (.iaload, 1) := by decide +kernel
theorem dX2_findSacks_93 : decode cX2_findSacks 93 = .ok (.aaload, 1) := by decide +kernel
theorem dX2_findSacks_94 : decode cX2_findSacks 94 = .ok (.getfield 100, 3) := by decide +kernel
theorem dX2_findSacks_97 : decode cX2_findSacks 97 = .ok (.putfield 100, 3) := by decide +kernel
theorem dX2_findSacks_100 : decode cX2_findSacks 100 = .ok (.iinc 5 1, 3) := by decide +kernel
theorem dX2_findSacks_103 : decode cX2_findSacks 103 = .ok (.goto (-40), 3) := by decide +kernel
theorem dX2_findSacks_106 : decode cX2_findSacks 106 = .ok (.aload_n 0, 1) := by decide +kernel
theorem dX2_findSacks_107 : decode cX2_findSacks 107 = .ok (.aload_n 0, 1) := by decide +kernel
theorem dX2_findSacks_108 : decode cX2_findSacks 108 = .ok (.aload_n 1, 1) := by decide +kernel
theorem dX2_findSacks_109 : decode cX2_findSacks 109 = .ok (.aload_n 1, 1) := by decide +kernel
theorem dX2_findSacks_110 : decode cX2_findSacks 110 = .ok (.getfield 103, 3) := by decide +kernel
theorem dX2_findSacks_113 : decode cX2_findSacks 113 = .ok (.aload_n 1, 1) := by decide +kernel
theorem dX2_findSacks_114 : decode cX2_findSacks 114 = .ok (.getfield 106, 3) := by decide +kernel
theorem dX2_findSacks_117 : decode cX2_findSacks 117 = .ok (.invokevirtual 38, 3) := by decide +kernel
theorem dX2_findSacks_120 : decode cX2_findSacks 120 = .ok (.iload 4, 2) := by decide +kernel
theorem dX2_findSacks_122 : decode cX2_findSacks 122 = .ok (.invokevirtual 74, 3) := by decide +kernel
theorem dX2_findSacks_125 : decode cX2_findSacks 125 = .ok (.ifCond .eq 17, 3) := by decide +kernel
theorem dX2_findSacks_128 : decode cX2_findSacks 128 = .ok (.aload_n 0, 1) := by decide +kernel
theorem dX2_findSacks_129 : decode cX2_findSacks 129 = .ok (.getfield 25, 3) := by decide +kernel
theorem dX2_findSacks_132 : decode cX2_findSacks 132 = .ok (.iconst 0, 1) := by decide +kernel
theorem dX2_findSacks_133 : decode cX2_findSacks 133 = .ok (.aload_n 0, 1) := by decide +kernel
theorem dX2_findSacks_134 : decode cX2_findSacks 134 = .ok (.getfield 28, 3) := by decide +kernel
theorem dX2_findSacks_137 : decode cX2_findSacks 137 = .ok (.iconst 0, 1) := by decide +kernel
theorem dX2_findSacks_138 : decode cX2_findSacks 138 = .ok (.iload_n 2, 1) := by decide +kernel
theorem dX2_findSacks_139 : decode cX2_findSacks 139 = .ok (.invokestatic 109, 3) := by decide +kernel
theorem dX2_findSacks_142 : decode cX2_findSacks 142 = .ok (.aload_n 0, 1) := by decide +kernel
theorem dX2_findSacks_143 : decode cX2_findSacks 143 = .ok (.iload_n 2, 1) := by decide +kernel
theorem dX2_findSacks_144 : decode cX2_findSacks 144 = .ok (.invokevirtual 115, 3) := by decide +kernel
theorem dX2_findSacks_147 : decode cX2_findSacks 147 = .ok (.istore_n 3, 1) := by decide +kernel
theorem dX2_findSacks_148 : decode cX2_findSacks 148 = .ok (.iinc 4 1, 3) := by decide +kernel
theorem dX2_findSacks_151 : decode cX2_findSacks 151 = .ok (.goto (-114), 3) := by decide +kernel
theorem dX2_findSacks_154 : decode cX2_findSacks 154 = .ok (.return_, 1) := by decide +kernel
theorem dX2_nextOrder_0 : decode cX2_nextOrder 0 = .ok (.iload_n 1, 1) := by decide +kernel
theorem dX2_nextOrder_1 : decode cX2_nextOrder 1 = .ok (.iconst 2, 1) := by decide +kernel
theorem dX2_nextOrder_2 : decode cX2_nextOrder 2 = .ok (.isub, 1) := by decide +kernel
theorem dX2_nextOrder_3 : decode cX2_nextOrder 3 = .ok (.istore_n 2, 1) := by decide +kernel
theorem dX2_nextOrder_4 : decode cX2_nextOrder 4 = .ok (.iload_n 2, 1) := by decide +kernel
theorem dX2_nextOrder_5 : decode cX2_nextOrder 5 = .ok (.ifCond .lt 26, 3) := by decide +kernel
theorem dX2_nextOrder_8 : decode cX2_nextOrder 8 = .ok (.aload_n 0, 1) := by decide +kernel
theorem dX2_nextOrder_9 : decode cX2_nextOrder 9 = .ok (.getfield 25, 3) := by decide +kernel
theorem dX2_nextOrder_12 : decode cX2_nextOrder 12 = .ok (.iload_n 2, 1) := by decide +kernel
theorem dX2_nextOrder_13 : decode cX2_nextOrder 13 = .ok (.iaload, 1) := by decide +kernel
theorem dX2_nextOrder_14 : decode cX2_nextOrder 14 = .ok (.aload_n 0, 1) := by decide +kernel
theorem dX2_nextOrder_15 : decode cX2_nextOrder 15 = .ok (.getfield 25, 3) := by decide +kernel
theorem dX2_nextOrder_18 : decode cX2_nextOrder 18 = .ok (.iload_n 2, 1) := by decide +kernel
theorem dX2_nextOrder_19 : decode cX2_nextOrder 19 = .ok (.iconst 1, 1) := by decide +kernel
theorem dX2_nextOrder_20 : decode cX2_nextOrder 20 = .ok (.iadd, 1) := by decide +kernel
theorem dX2_nextOrder_21 : decode cX2_nextOrder 21 = .ok (.iaload, 1) := by decide +kernel
theorem dX2_nextOrder_22 : decode cX2_nextOrder 22 = .ok (.if_icmp .le 9, 3) := by decide +kernel
theorem dX2_nextOrder_25 : decode cX2_nextOrder 25 = .ok (.iinc 2 (-1), 3) := by decide +kernel
theorem dX2_nextOrder_28 : decode cX2_nextOrder 28 = .ok (.goto (-24), 3) := by decide +kernel
theorem dX2_nextOrder_31 : decode cX2_nextOrder 31 = .ok (.iload_n 2, 1) := by decide +kernel
theorem dX2_nextOrder_32 : decode cX2_nextOrder 32 = .ok (.ifCond .ge 5, 3) := by decide +kernel
theorem dX2_nextOrder_35 : decode cX2_nextOrder 35 = .ok (.iconst 0, 1) := by decide +kernel
theorem dX2_nextOrder_36 : decode cX2_nextOrder 36 = .ok (.ireturn, 1) := by decide +kernel
theorem dX2_nextOrder_37 : decode cX2_nextOrder 37 = .ok (.iload_n 1, 1) := by decide +kernel
theorem dX2_nextOrder_38 : decode cX2_nextOrder 38 = .ok (.iconst 1, 1) := by decide +kernel
theorem dX2_nextOrder_39 : decode cX2_nextOrder 39 = .ok (.isub, 1) := by decide +kernel
theorem dX2_nextOrder_40 : decode cX2_nextOrder 40 = .ok (.istore_n 3, 1) := by decide +kernel
theorem dX2_nextOrder_41 : decode cX2_nextOrder 41 = .ok (.iload_n 3, 1) := by decide +kernel
theorem dX2_nextOrder_42 : decode cX2_nextOrder 42 = .ok (.iload_n 2, 1) := by decide +kernel
theorem dX2_nextOrder_43 : decode cX2_nextOrder 43 = .ok (.if_icmp .le 24, 3) := by decide +kernel
theorem dX2_nextOrder_46 : decode cX2_nextOrder 46 = .ok (.aload_n 0, 1) := by decide +kernel
theorem dX2_nextOrder_47 : decode cX2_nextOrder 47 = .ok (.getfield 25, 3) := by decide +kernel
theorem dX2_nextOrder_50 : decode cX2_nextOrder 50 = .ok (.iload_n 3, 1) := by decide +kernel
theorem dX2_nextOrder_51 : decode cX2_nextOrder 51 = .ok (.iaload, 1) := by decide +kernel
theorem dX2_nextOrder_52 : decode cX2_nextOrder 52 = .ok (.aload_n 0, 1) := by decide +kernel
theorem dX2_nextOrder_53 : decode cX2_nextOrder 53 = .ok (.getfield 25, 3) := by decide +kernel
theorem dX2_nextOrder_56 : decode cX2_nextOrder 56 = .ok (.iload_n 2, 1) := by decide +kernel
theorem dX2_nextOrder_57 : decode cX2_nextOrder 57 = .ok (.iaload, 1) := by decide +kernel
theorem dX2_nextOrder_58 : decode cX2_nextOrder 58 = .ok (.if_icmp .ge 9, 3) := by decide +kernel
theorem dX2_nextOrder_61 : decode cX2_nextOrder 61 = .ok (.iinc 3 (-1), 3) := by decide +kernel
theorem dX2_nextOrder_64 : decode cX2_nextOrder 64 = .ok (.goto (-23), 3) := by decide +kernel
theorem dX2_nextOrder_67 : decode cX2_nextOrder 67 = .ok (.aload_n 0, 1) := by decide +kernel
theorem dX2_nextOrder_68 : decode cX2_nextOrder 68 = .ok (.iload_n 2, 1) := by decide +kernel
theorem dX2_nextOrder_69 : decode cX2_nextOrder 69 = .ok (.iload_n 3, 1) := by decide +kernel
theorem dX2_nextOrder_70 : decode cX2_nextOrder 70 = .ok (.invokevirtual 118, 3) := by decide +kernel
theorem dX2_nextOrder_73 : decode cX2_nextOrder 73 = .ok (.iload_n 2, 1) := by decide +kernel
theorem dX2_nextOrder_74 : decode cX2_nextOrder 74 = .ok (.iconst 1, 1) := by decide +kernel
theorem dX2_nextOrder_75 : decode cX2_nextOrder 75 = .ok (.iadd, 1) := by decide +kernel
theorem dX2_nextOrder_76 : decode cX2_nextOrder 76 = .ok (.istore 4, 2) := by decide +kernel
theorem dX2_nextOrder_78 : decode cX2_nextOrder 78 = .ok (.iload_n 1, 1) := by decide +kernel
theorem dX2_nextOrder_79 : decode cX2_nextOrder 79 = .ok (.iconst 1, 1) := by decide +kernel
theorem dX2_nextOrder_80 : decode cX2_nextOrder 80 = .ok (.isub, 1) := by decide +kernel
theorem dX2_nextOrder_81 : decode cX2_nextOrder 81 = .ok (.istore 5, 2) := by decide +kernel
theorem dX2_nextOrder_83 : decode cX2_nextOrder 83 = .ok (.iload 4, 2) := by decide +kernel
theorem dX2_nextOrder_85 : decode cX2_nextOrder 85 = .ok (.iload 5, 2) := by decide +kernel
theorem dX2_nextOrder_87 : decode cX2_nextOrder 87 = .ok (.if_icmp .ge 20, 3) := by decide +kernel
theorem dX2_nextOrder_90 : decode cX2_nextOrder 90 = .ok (.aload_n 0, 1) := by decide +kernel
theorem dX2_nextOrder_91 : decode cX2_nextOrder 91 = .ok (.iload 4, 2) := by decide +kernel
theorem dX2_nextOrder_93 : decode cX2_nextOrder 93 = .ok (.iload 5, 2) := by decide +kernel
theorem dX2_nextOrder_95 : decode cX2_nextOrder 95 = .ok (.invokevirtual 118, 3) := by decide +kernel
theorem dX2_nextOrder_98 : decode cX2_nextOrder 98 = .ok (.iinc 4 1, 3) := by decide +kernel
theorem dX2_nextOrder_101 : decode cX2_nextOrder 101 = .ok (.iinc 5 (-1), 3) := by decide +kernel
theorem dX2_nextOrder_104 : decode cX2_nextOrder 104 = .ok (.goto (-21), 3) := by decide +kernel
theorem dX2_nextOrder_107 : decode cX2_nextOrder 107 = .ok (.iconst 1, 1) := by decide +kernel
theorem dX2_nextOrder_108 : decode cX2_nextOrder 108 = .ok (.ireturn, 1) := by decide +kernel
theorem dX2_swap_0 : decode cX2_swap 0 = .ok (.aload_n 0, 1) := by decide +kernel
theorem dX2_swap_1 : decode cX2_swap 1 = .ok (.getfield 25, 3) := by decide +kernel
theorem dX2_swap_4 : decode cX2_swap 4 = .ok (.iload_n 1, 1) := by decide +kernel
theorem dX2_swap_5 : decode cX2_swap 5 = .ok (.iaload, 1) := by decide +kernel
theorem dX2_swap_6 : decode cX2_swap 6 = .ok (.istore_n 3, 1) := by decide +kernel
theorem dX2_swap_7 : decode cX2_swap 7 = .ok (.aload_n 0, 1) := by decide +kernel
theorem dX2_swap_8 : decode cX2_swap 8 = .ok (.getfield 25, 3) := by decide +kernel
theorem dX2_swap_11 : decode cX2_swap 11 = .ok (.iload_n 1, 1) := by decide +kernel
theorem dX2_swap_12 : decode cX2_swap 12 = .ok (.aload_n 0, 1) := by decide +kernel
theorem dX2_swap_13 : decode cX2_swap 13 = .ok (.getfield 25, 3) := by decide +kernel
theorem dX2_swap_16 : decode cX2_swap 16 = .ok (.iload_n 2, 1) := by decide +kernel
theorem dX2_swap_17 : decode cX2_swap 17 = .ok (.iaload, 1) := by decide +kernel
theorem dX2_swap_18 : decode cX2_swap 18 = .ok (.iastore, 1) := by decide +kernel
theorem dX2_swap_19 : decode cX2_swap 19 = .ok (.aload_n 0, 1) := by decide +kernel
theorem dX2_swap_20 : decode cX2_swap 20 = .ok (.getfield 25, 3) := by decide +kernel
theorem dX2_swap_23 : decode cX2_swap 23 = .ok (.iload_n 2, 1) := by decide +kernel
theorem dX2_swap_24 : decode cX2_swap 24 = .ok (.iload_n 3, 1) := by decide +kernel
theorem dX2_swap_25 : decode cX2_swap 25 = .ok (.iastore, 1) := by decide +kernel
theorem dX2_swap_26 : decode cX2_swap 26 = .ok (.return_, 1) := by decide +kernel
theorem dX2_findParties_0 : decode cX2_findParties 0 = .ok (.aload_n 0, 1) := by decide +kernel
theorem dX2_findParties_1 : decode cX2_findParties 1 = .ok (.invokevirtual 64, 3) := by decide +kernel
theorem dX2_findParties_4 : decode cX2_findParties 4 = .ok (.iconst 1, 1) := by decide +kernel
theorem dX2_findParties_5 : decode cX2_findParties 5 = .ok (.aload_n 1, 1) := by decide +kernel
theorem dX2_findParties_6 : decode cX2_findParties 6 = .ok (.getfield 31, 3) := by decide +kernel
theorem dX2_findParties_9 : decode cX2_findParties 9 = .ok (.getfield 78, 3) := by decide +kernel
theorem dX2_findParties_12 : decode cX2_findParties 12 = .ok (.ishl, 1) := by decide +kernel
theorem dX2_findParties_13 : decode cX2_findParties 13 = .ok (.istore_n 2, 1) := by decide +kernel
theorem dX2_findParties_14 : decode cX2_findParties 14 = .ok (.iconst 0, 1) := by decide +kernel
theorem dX2_findParties_15 : decode cX2_findParties 15 = .ok (.istore_n 3, 1) := by decide +kernel
theorem dX2_findParties_16 : decode cX2_findParties 16 = .ok (.iload_n 3, 1) := by decide +kernel
theorem dX2_findParties_17 : decode cX2_findParties 17 = .ok (.iload_n 2, 1) := by decide +kernel
theorem dX2_findParties_18 : decode cX2_findParties 18 = .ok (.if_icmp .ge 41, 3) := by decide +kernel
theorem dX2_findParties_21 : decode cX2_findParties 21 = .ok (.aload_n 0, 1) := by decide +kernel
theorem dX2_findParties_22 : decode cX2_findParties 22 = .ok (.aload_n 1, 1) := by decide +kernel
theorem dX2_findParties_23 : decode cX2_findParties 23 = .ok (.iload_n 3, 1) := by decide +kernel
theorem dX2_findParties_24 : decode cX2_findParties 24 = .ok (.invokevirtual 122, 3) := by decide +kernel
theorem dX2_findParties_27 : decode cX2_findParties 27 = .ok (.istore 4, 2) := by decide +kernel
theorem dX2_findParties_29 : decode cX2_findParties 29 = .ok (.aload_n 0, 1) := by decide +kernel
theorem dX2_findParties_30 : decode cX2_findParties 30 = .ok (.aload_n 1, 1) := by decide +kernel
theorem dX2_findParties_31 : decode cX2_findParties 31 = .ok (.bipush 63, 2) := by decide +kernel
theorem dX2_findParties_33 : decode cX2_findParties 33 = .ok (.iload_n 3, 1) := by decide +kernel
theorem dX2_findParties_34 : decode cX2_findParties 34 = .ok (.isub, 1) := by decide +kernel
theorem dX2_findParties_35 : decode cX2_findParties 35 = .ok (.invokevirtual 122, 3) := by decide +kernel
theorem dX2_findParties_38 : decode cX2_findParties 38 = .ok (.istore 5, 2) := by decide +kernel
theorem dX2_findParties_40 : decode cX2_findParties 40 = .ok (.aload_n 0, 1) := by decide +kernel
theorem dX2_findParties_41 : decode cX2_findParties 41 = .ok (.iload 4, 2) := by decide +kernel
theorem dX2_findParties_43 : decode cX2_findParties 43 = .ok (.iload 5, 2) := by decide +kernel
theorem dX2_findParties_45 : decode cX2_findParties 45 = .ok (.invokestatic 94, 3) := by decide +kernel
theorem dX2_findParties_48 : decode cX2_findParties 48 = .ok (.iload_n 3, 1) := by decide +kernel
theorem dX2_findParties_49 : decode cX2_findParties 49 = .ok (.invokevirtual 74, 3) := by decide +kernel
theorem dX2_findParties_52 : decode cX2_findParties 52 = .ok (.pop, 1) := by decide +kernel
theorem dX2_findParties_53 : decode cX2_findParties 53 = .ok (.iinc 3 2, 3) := by decide +kernel
theorem dX2_findParties_56 : decode cX2_findParties 56 = .ok (.goto (-40), 3) := by decide +kernel
theorem dX2_findParties_59 : decode cX2_findParties 59 = .ok (.return_, 1) := by decide +kernel
theorem dX2_walkSet_0 : decode cX2_walkSet 0 = .ok (.aload_n 0, 1) := by decide +kernel
theorem dX2_walkSet_1 : decode cX2_walkSet 1 = .ok (.getfield 12, 3) := by decide +kernel
theorem dX2_walkSet_4 : decode cX2_walkSet 4 = .ok (.aload_n 1, 1) := by decide +kernel
theorem dX2_walkSet_5 : decode cX2_walkSet 5 = .ok (.getfield 31, 3) := by decide +kernel
theorem dX2_walkSet_8 : decode cX2_walkSet 8 = .ok (.invokevirtual 34, 3) := by decide +kernel
theorem dX2_walkSet_11 : decode cX2_walkSet 11 = .ok (.aload_n 0, 1) := by decide +kernel
theorem dX2_walkSet_12 : decode cX2_walkSet 12 = .ok (.getfield 12, 3) := by decide +kernel
theorem dX2_walkSet_15 : decode cX2_walkSet 15 = .ok (.iload_n 2, 1) := by decide +kernel
theorem dX2_walkSet_16 : decode cX2_walkSet 16 = .ok (.putfield 126, 3) := by decide +kernel
theorem dX2_walkSet_19 : decode cX2_walkSet 19 = .ok (.aload_n 0, 1) := by decide +kernel
theorem dX2_walkSet_20 : decode cX2_walkSet 20 = .ok (.aload_n 1, 1) := by decide +kernel
theorem dX2_walkSet_21 : decode cX2_walkSet 21 = .ok (.aload_n 1, 1) := by decide +kernel
theorem dX2_walkSet_22 : decode cX2_walkSet 22 = .ok (.getfield 103, 3) := by decide +kernel
theorem dX2_walkSet_25 : decode cX2_walkSet 25 = .ok (.aload_n 1, 1) := by decide +kernel
theorem dX2_walkSet_26 : decode cX2_walkSet 26 = .ok (.getfield 106, 3) := by decide +kernel
theorem dX2_walkSet_29 : decode cX2_walkSet 29 = .ok (.invokevirtual 38, 3) := by decide +kernel
theorem dX2_walkSet_32 : decode cX2_walkSet 32 = .ok (.ireturn, 1) := by decide +kernel
theorem dX2_lastTurn_0 : decode cX2_lastTurn 0 = .ok (.ldc 129, 2) := by decide +kernel
theorem dX2_lastTurn_2 : decode cX2_lastTurn 2 = .ok (.istore_n 2, 1) := by decide +kernel
theorem dX2_lastTurn_3 : decode cX2_lastTurn 3 = .ok (.aload_n 0, 1) := by decide +kernel
theorem dX2_lastTurn_4 : decode cX2_lastTurn 4 = .ok (.getfield 12, 3) := by decide +kernel
theorem dX2_lastTurn_7 : decode cX2_lastTurn 7 = .ok (.aload_n 1, 1) := by decide +kernel
theorem dX2_lastTurn_8 : decode cX2_lastTurn 8 = .ok (.getfield 31, 3) := by decide +kernel
theorem dX2_lastTurn_11 : decode cX2_lastTurn 11 = .ok (.invokevirtual 34, 3) := by decide +kernel
theorem dX2_lastTurn_14 : decode cX2_lastTurn 14 = .ok (.aload_n 1, 1) := by decide +kernel
theorem dX2_lastTurn_15 : decode cX2_lastTurn 15 = .ok (.getfield 42, 3) := by decide +kernel
theorem dX2_lastTurn_18 : decode cX2_lastTurn 18 = .ok (.istore_n 3, 1) := by decide +kernel
theorem dX2_lastTurn_19 : decode cX2_lastTurn 19 = .ok (.iload_n 3, 1) := by decide +kernel
theorem dX2_lastTurn_20 : decode cX2_lastTurn 20 = .ok (.aload_n 1, 1) := by decide +kernel
theorem dX2_lastTurn_21 : decode cX2_lastTurn 21 = .ok (.getfield 46, 3) := by decide +kernel
theorem dX2_lastTurn_24 : decode cX2_lastTurn 24 = .ok (.if_icmp .gt 49, 3) := by decide +kernel
theorem dX2_lastTurn_27 : decode cX2_lastTurn 27 = .ok (.aload_n 0, 1) := by decide +kernel
theorem dX2_lastTurn_28 : decode cX2_lastTurn 28 = .ok (.aload_n 1, 1) := by decide +kernel
theorem dX2_lastTurn_29 : decode cX2_lastTurn 29 = .ok (.iload_n 3, 1) := by decide +kernel
theorem dX2_lastTurn_30 : decode cX2_lastTurn 30 = .ok (.invokevirtual 130, 3) := by decide +kernel
theorem dX2_lastTurn_33 : decode cX2_lastTurn 33 = .ok (.aload_n 1, 1) := by decide +kernel
theorem dX2_lastTurn_34 : decode cX2_lastTurn 34 = .ok (.getfield 133, 3) := by decide +kernel
theorem dX2_lastTurn_37 : decode cX2_lastTurn 37 = .ok (.if_icmp .gt 5, 3) := by decide +kernel
theorem dX2_lastTurn_40 : decode cX2_lastTurn 40 = .ok (.iload_n 3, 1) := by decide +kernel
theorem dX2_lastTurn_41 : decode cX2_lastTurn 41 = .ok (.istore_n 2, 1) := by decide +kernel
theorem dX2_lastTurn_42 : decode cX2_lastTurn 42 = .ok (.iload_n 3, 1) := by decide +kernel
theorem dX2_lastTurn_43 : decode cX2_lastTurn 43 = .ok (.aload_n 1, 1) := by decide +kernel
theorem dX2_lastTurn_44 : decode cX2_lastTurn 44 = .ok (.getfield 46, 3) := by decide +kernel
theorem dX2_lastTurn_47 : decode cX2_lastTurn 47 = .ok (.if_icmp .ge 20, 3) := by decide +kernel
theorem dX2_lastTurn_50 : decode cX2_lastTurn 50 = .ok (.aload_n 1, 1) := by decide +kernel
theorem dX2_lastTurn_51 : decode cX2_lastTurn 51 = .ok (.aload_n 0, 1) := by decide +kernel
theorem dX2_lastTurn_52 : decode cX2_lastTurn 52 = .ok (.getfield 12, 3) := by decide +kernel
theorem dX2_lastTurn_55 : decode cX2_lastTurn 55 = .ok (.iload_n 3, 1) := by decide +kernel
theorem dX2_lastTurn_56 : decode cX2_lastTurn 56 = .ok (.aload_n 1, 1) := by decide +kernel
theorem dX2_lastTurn_57 : decode cX2_lastTurn 57 = .ok (.getfield 103, 3) := by decide +kernel
theorem dX2_lastTurn_60 : decode cX2_lastTurn 60 = .ok (.aload_n 1, 1) := by decide +kernel
theorem dX2_lastTurn_61 : decode cX2_lastTurn 61 = .ok (.getfield 106, 3) := by decide +kernel
theorem dX2_lastTurn_64 : decode cX2_lastTurn 64 = .ok (.invokevirtual 49, 3) := by decide +kernel
theorem dX2_lastTurn_67 : decode cX2_lastTurn 67 = .ok (.iinc 3 1, 3) := by decide +kernel
theorem dX2_lastTurn_70 : decode cX2_lastTurn 70 = .ok (.goto (-51), 3) := by decide +kernel
theorem dX2_lastTurn_73 : decode cX2_lastTurn 73 = .ok (.iload_n 2, 1) := by decide +kernel
theorem dX2_lastTurn_74 : decode cX2_lastTurn 74 = .ok (.ireturn, 1) := by decide +kernel
theorem dX2_walkBack_0 : decode cX2_walkBack 0 = .ok (.aload_n 0, 1) := by decide +kernel
theorem dX2_walkBack_1 : decode cX2_walkBack 1 = .ok (.getfield 18, 3) := by decide +kernel
theorem dX2_walkBack_4 : decode cX2_walkBack 4 = .ok (.aload_n 0, 1) := by decide +kernel
theorem dX2_walkBack_5 : decode cX2_walkBack 5 = .ok (.getfield 12, 3) := by decide +kernel
theorem dX2_walkBack_8 : decode cX2_walkBack 8 = .ok (.invokevirtual 34, 3) := by decide +kernel
theorem dX2_walkBack_11 : decode cX2_walkBack 11 = .ok (.iload_n 2, 1) := by decide +kernel
theorem dX2_walkBack_12 : decode cX2_walkBack 12 = .ok (.iconst 1, 1) := by decide +kernel
theorem dX2_walkBack_13 : decode cX2_walkBack 13 = .ok (.isub, 1) := by decide +kernel
theorem dX2_walkBack_14 : decode cX2_walkBack 14 = .ok (.istore_n 3, 1) := by decide +kernel
theorem dX2_walkBack_15 : decode cX2_walkBack 15 = .ok (.iload_n 3, 1) := by decide +kernel
theorem dX2_walkBack_16 : decode cX2_walkBack 16 = .ok (.ifCond .lt 31, 3) := by decide +kernel
theorem dX2_walkBack_19 : decode cX2_walkBack 19 = .ok (.aload_n 0, 1) := by decide +kernel
theorem dX2_walkBack_20 : decode cX2_walkBack 20 = .ok (.getfield 18, 3) := by decide +kernel
theorem dX2_walkBack_23 : decode cX2_walkBack 23 = .ok (.aload_n 1, 1) := by decide +kernel
theorem dX2_walkBack_24 : decode cX2_walkBack 24 = .ok (.getfield 136, 3) := by decide +kernel
theorem dX2_walkBack_27 : decode cX2_walkBack 27 = .ok (.iload_n 3, 1) := by decide +kernel
theorem dX2_walkBack_28 : decode cX2_walkBack 28 = .ok (.iaload, 1) := by decide +kernel
theorem dX2_walkBack_29 : decode cX2_walkBack 29 = .ok (.invokevirtual 139, 3) := by decide +kernel
theorem dX2_walkBack_32 : decode cX2_walkBack 32 = .ok (.aload_n 0, 1) := by decide +kernel
theorem dX2_walkBack_33 : decode cX2_walkBack 33 = .ok (.getfield 18, 3) := by decide +kernel
theorem dX2_walkBack_36 : decode cX2_walkBack 36 = .ok (.iconst 3, 1) := by decide +kernel
theorem dX2_walkBack_37 : decode cX2_walkBack 37 = .ok (.iconst 0, 1) := by decide +kernel
theorem dX2_walkBack_38 : decode cX2_walkBack 38 = .ok (.invokevirtual 143, 3) := by decide +kernel
theorem dX2_walkBack_41 : decode cX2_walkBack 41 = .ok (.iinc 3 (-1), 3) := by decide +kernel
theorem dX2_walkBack_44 : decode cX2_walkBack 44 = .ok (.goto (-29), 3) := by decide +kernel
theorem dX2_walkBack_47 : decode cX2_walkBack 47 = .ok (.aload_n 0, 1) := by decide +kernel
theorem dX2_walkBack_48 : decode cX2_walkBack 48 = .ok (.getfield 18, 3) := by decide +kernel
theorem dX2_walkBack_51 : decode cX2_walkBack 51 = .ok (.invokevirtual 53, 3) := by decide +kernel
theorem dX2_walkBack_54 : decode cX2_walkBack 54 = .ok (.ireturn, 1) := by decide +kernel
theorem dX2_findFits_0 : decode cX2_findFits 0 = .ok (.aload_n 0, 1) := by decide +kernel
theorem dX2_findFits_1 : decode cX2_findFits 1 = .ok (.iconst 0, 1) := by decide +kernel
theorem dX2_findFits_2 : decode cX2_findFits 2 = .ok (.putfield 58, 3) := by decide +kernel
theorem dX2_findFits_5 : decode cX2_findFits 5 = .ok (.aload_n 0, 1) := by decide +kernel
theorem dX2_findFits_6 : decode cX2_findFits 6 = .ok (.ldc 129, 2) := by decide +kernel
theorem dX2_findFits_8 : decode cX2_findFits 8 = .ok (.putfield 61, 3) := by decide +kernel
theorem dX2_findFits_11 : decode cX2_findFits 11 = .ok (.iconst 0, 1) := by decide +kernel
theorem dX2_findFits_12 : decode cX2_findFits 12 = .ok (.istore 6, 2) := by decide +kernel
theorem dX2_findFits_14 : decode cX2_findFits 14 = .ok (.iload 6, 2) := by decide +kernel
theorem dX2_findFits_16 : decode cX2_findFits 16 = .ok (.bipush 124, 2) := by decide +kernel
theorem dX2_findFits_18 : decode cX2_findFits 18 = .ok (.if_icmp .ge 64, 3) := by decide +kernel
theorem dX2_findFits_21 : decode cX2_findFits 21 = .ok (.iload 6, 2) := by decide +kernel
theorem dX2_findFits_23 : decode cX2_findFits 23 = .ok (.invokestatic 67, 3) := by decide +kernel
theorem dX2_findFits_26 : decode cX2_findFits 26 = .ok (.ifCond .eq 50, 3) := by decide +kernel
theorem dX2_findFits_29 : decode cX2_findFits 29 = .ok (.aload_n 0, 1) := by decide +kernel
theorem dX2_findFits_30 : decode cX2_findFits 30 = .ok (.aload_n 1, 1) := by decide +kernel
theorem dX2_findFits_31 : decode cX2_findFits 31 = .ok (.iload 6, 2) := by decide +kernel
theorem dX2_findFits_33 : decode cX2_findFits 33 = .ok (.iload_n 2, 1) := by decide +kernel
theorem dX2_findFits_34 : decode cX2_findFits 34 = .ok (.aload_n 3, 1) := by decide +kernel
theorem dX2_findFits_35 : decode cX2_findFits 35 = .ok (.iload 4, 2) := by decide +kernel
theorem dX2_findFits_37 : decode cX2_findFits 37 = .ok (.iload 5, 2) := by decide +kernel
theorem dX2_findFits_39 : decode cX2_findFits 39 = .ok (.invokevirtual 146, 3) := by decide +kernel
theorem dX2_findFits_42 : decode cX2_findFits 42 = .ok (.ifCond .eq 34, 3) := by decide +kernel
theorem dX2_findFits_45 : decode cX2_findFits 45 = .ok (.aload_n 0, 1) := by decide +kernel
theorem dX2_findFits_46 : decode cX2_findFits 46 = .ok (.dup, 1) := by decide +kernel
theorem dX2_findFits_47 : decode cX2_findFits 47 = .ok (.getfield 58, 3) := by decide +kernel
theorem dX2_findFits_50 : decode cX2_findFits 50 = .ok (.iconst 1, 1) := by decide +kernel
theorem dX2_findFits_51 : decode cX2_findFits 51 = .ok (.iadd, 1) := by decide +kernel
theorem dX2_findFits_52 : decode cX2_findFits 52 = .ok (.putfield 58, 3) := by decide +kernel
theorem dX2_findFits_55 : decode cX2_findFits 55 = .ok (.aload_n 0, 1) := by decide +kernel
theorem dX2_findFits_56 : decode cX2_findFits 56 = .ok (.aload_n 0, 1) := by decide +kernel
theorem dX2_findFits_57 : decode cX2_findFits 57 = .ok (.getfield 58, 3) := by decide +kernel
theorem dX2_findFits_60 : decode cX2_findFits 60 = .ok (.iconst 1, 1) := by decide +kernel
theorem dX2_findFits_61 : decode cX2_findFits 61 = .ok (.if_icmp .ne 8, 3) := by decide +kernel
theorem dX2_findFits_64 : decode cX2_findFits 64 = .ok (.iload 6, 2) := by decide +kernel
theorem dX2_findFits_66 : decode cX2_findFits 66 = .ok (.goto 7, 3) := by decide +kernel
theorem dX2_findFits_69 : decode cX2_findFits 69 = .ok (.aload_n 0, 1) := by decide +kernel
theorem dX2_findFits_70 : decode cX2_findFits 70 = .ok (.getfield 61, 3) := by decide +kernel
theorem dX2_findFits_73 : decode cX2_findFits 73 = .ok (.putfield 61, 3) := by decide +kernel
theorem dX2_findFits_76 : decode cX2_findFits 76 = .ok (.iinc 6 1, 3) := by decide +kernel
theorem dX2_findFits_79 : decode cX2_findFits 79 = .ok (.goto (-65), 3) := by decide +kernel
theorem dX2_findFits_82 : decode cX2_findFits 82 = .ok (.return_, 1) := by decide +kernel
theorem dX2_isSo_0 : decode cX2_isSo 0 = .ok (.aload_n 0, 1) := by decide +kernel
theorem dX2_isSo_1 : decode cX2_isSo 1 = .ok (.getfield 12, 3) := by decide +kernel
theorem dX2_isSo_4 : decode cX2_isSo 4 = .ok (.aload_n 1, 1) := by decide +kernel
theorem dX2_isSo_5 : decode cX2_isSo 5 = .ok (.getfield 31, 3) := by decide +kernel
theorem dX2_isSo_8 : decode cX2_isSo 8 = .ok (.invokevirtual 34, 3) := by decide +kernel
theorem dX2_isSo_11 : decode cX2_isSo 11 = .ok (.iconst 0, 1) := by decide +kernel
theorem dX2_isSo_12 : decode cX2_isSo 12 = .ok (.istore 7, 2) := by decide +kernel
theorem dX2_isSo_14 : decode cX2_isSo 14 = .ok (.iload 7, 2) := by decide +kernel
theorem dX2_isSo_16 : decode cX2_isSo 16 = .ok (.iload 6, 2) := by decide +kernel
theorem dX2_isSo_18 : decode cX2_isSo 18 = .ok (.if_icmp .ge 60, 3) := by decide +kernel
theorem dX2_isSo_21 : decode cX2_isSo 21 = .ok (.aload_n 1, 1) := by decide +kernel
theorem dX2_isSo_22 : decode cX2_isSo 22 = .ok (.aload_n 0, 1) := by decide +kernel
theorem dX2_isSo_23 : decode cX2_isSo 23 = .ok (.getfield 12, 3) := by decide +kernel
theorem dX2_isSo_26 : decode cX2_isSo 26 = .ok (.aload_n 1, 1) := by decide +kernel
theorem dX2_isSo_27 : decode cX2_isSo 27 = .ok (.getfield 42, 3) := by decide +kernel
theorem dX2_isSo_30 : decode cX2_isSo 30 = .ok (.iload 7, 2) := by decide +kernel
theorem dX2_isSo_32 : decode cX2_isSo 32 = .ok (.iadd, 1) := by decide +kernel
theorem dX2_isSo_33 : decode cX2_isSo 33 = .ok (.iload_n 2, 1) := by decide +kernel
theorem dX2_isSo_34 : decode cX2_isSo 34 = .ok (.bipush 31, 2) := by decide +kernel
theorem dX2_isSo_36 : decode cX2_isSo 36 = .ok (.idiv, 1) := by decide +kernel
theorem dX2_isSo_37 : decode cX2_isSo 37 = .ok (.iload_n 2, 1) := by decide +kernel
theorem dX2_isSo_38 : decode cX2_isSo 38 = .ok (.bipush 31, 2) := by decide +kernel
theorem dX2_isSo_40 : decode cX2_isSo 40 = .ok (.irem, 1) := by decide +kernel
theorem dX2_isSo_41 : decode cX2_isSo 41 = .ok (.invokevirtual 49, 3) := by decide +kernel
theorem dX2_isSo_44 : decode cX2_isSo 44 = .ok (.aload_n 0, 1) := by decide +kernel
theorem dX2_isSo_45 : decode cX2_isSo 45 = .ok (.getfield 12, 3) := by decide +kernel
theorem dX2_isSo_48 : decode cX2_isSo 48 = .ok (.getfield 81, 3) := by decide +kernel
theorem dX2_isSo_51 : decode cX2_isSo 51 = .ok (.iload_n 3, 1) := by decide +kernel
theorem dX2_isSo_52 : decode cX2_isSo 52 = .ok (.aaload, 1) := by decide +kernel
theorem dX2_isSo_53 : decode cX2_isSo 53 = .ok (.getfield 150, 3) := by decide +kernel
theorem dX2_isSo_56 : decode cX2_isSo 56 = .ok (.aload 4, 2) := by decide +kernel
theorem dX2_isSo_58 : decode cX2_isSo 58 = .ok (.getfield 153, 3) := by decide +kernel
theorem dX2_isSo_61 : decode cX2_isSo 61 = .ok (.iload 5, 2) := by decide +kernel
theorem dX2_isSo_63 : decode cX2_isSo 63 = .ok (.iload 7, 2) := by decide +kernel
theorem dX2_isSo_65 : decode cX2_isSo 65 = .ok (.iadd, 1) := by decide +kernel
theorem dX2_isSo_66 : decode cX2_isSo 66 = .ok (.iaload, 1) := by decide +kernel
theorem dX2_isSo_67 : decode cX2_isSo 67 = .ok (.if_icmp .eq 5, 3) := by decide +kernel
theorem dX2_isSo_70 : decode cX2_isSo 70 = .ok (.iconst 0, 1) := by decide +kernel
theorem dX2_isSo_71 : decode cX2_isSo 71 = .ok (.ireturn, 1) := by decide +kernel
theorem dX2_isSo_72 : decode cX2_isSo 72 = .ok (.iinc 7 1, 3) := by decide +kernel
theorem dX2_isSo_75 : decode cX2_isSo 75 = .ok (.goto (-61), 3) := by decide +kernel
theorem dX2_isSo_78 : decode cX2_isSo 78 = .ok (.iconst 1, 1) := by decide +kernel
theorem dX2_isSo_79 : decode cX2_isSo 79 = .ok (.ireturn, 1) := by decide +kernel
theorem dX3_init_0 : decode cX3_init 0 = .ok (.aload_n 0, 1) := by decide +kernel
theorem dX3_init_1 : decode cX3_init 1 = .ok (.invokespecial 3, 3) := by decide +kernel
theorem dX3_init_4 : decode cX3_init 4 = .ok (.aload_n 0, 1) := by decide +kernel
theorem dX3_init_5 : decode cX3_init 5 = .ok (.bipush 6, 2) := by decide +kernel
theorem dX3_init_7 : decode cX3_init 7 = .ok (.anewarray 9, 3) := by decide +kernel
theorem dX3_init_10 : decode cX3_init 10 = .ok (.putfield 11, 3) := by decide +kernel
theorem dX3_init_13 : decode cX3_init 13 = .ok (.aload_n 0, 1) := by decide +kernel
theorem dX3_init_14 : decode cX3_init 14 = .ok (.bipush 63, 2) := by decide +kernel
theorem dX3_init_16 : decode cX3_init 16 = .ok (.putfield 17, 3) := by decide +kernel
theorem dX3_init_19 : decode cX3_init 19 = .ok (.iconst 0, 1) := by decide +kernel
theorem dX3_init_20 : decode cX3_init 20 = .ok (.istore_n 1, 1) := by decide +kernel
theorem dX3_init_21 : decode cX3_init 21 = .ok (.iload_n 1, 1) := by decide +kernel
theorem dX3_init_22 : decode cX3_init 22 = .ok (.aload_n 0, 1) := by decide +kernel
theorem dX3_init_23 : decode cX3_init 23 = .ok (.getfield 11, 3) := by decide +kernel
theorem dX3_init_26 : decode cX3_init 26 = .ok (.arraylength, 1) := by decide +kernel
theorem dX3_init_27 : decode cX3_init 27 = .ok (.if_icmp .ge 22, 3) := by decide +kernel
theorem dX3_init_30 : decode cX3_init 30 = .ok (.aload_n 0, 1) := by decide +kernel
theorem dX3_init_31 : decode cX3_init 31 = .ok (.getfield 11, 3) := by decide +kernel
theorem dX3_init_34 : decode cX3_init 34 = .ok (.iload_n 1, 1) := by decide +kernel
theorem dX3_init_35 : decode cX3_init 35 = .ok (.new 9, 3) := by decide +kernel
theorem dX3_init_38 : decode cX3_init 38 = .ok (.dup, 1) := by decide +kernel
theorem dX3_init_39 : decode cX3_init 39 = .ok (.invokespecial 21, 3) := by decide +kernel
theorem dX3_init_42 : decode cX3_init 42 = .ok (.aastore, 1) := by decide +kernel
theorem dX3_init_43 : decode cX3_init 43 = .ok (.iinc 1 1, 3) := by decide +kernel
theorem dX3_init_46 : decode cX3_init 46 = .ok (.goto (-25), 3) := by decide +kernel
theorem dX3_init_49 : decode cX3_init 49 = .ok (.return_, 1) := by decide +kernel
theorem dX3_become_0 : decode cX3_become 0 = .ok (.aload_n 0, 1) := by decide +kernel
theorem dX3_become_1 : decode cX3_become 1 = .ok (.aload_n 1, 1) := by decide +kernel
theorem dX3_become_2 : decode cX3_become 2 = .ok (.getfield 22, 3) := by decide +kernel
theorem dX3_become_5 : decode cX3_become 5 = .ok (.putfield 22, 3) := by decide +kernel
theorem dX3_become_8 : decode cX3_become 8 = .ok (.aload_n 0, 1) := by decide +kernel
theorem dX3_become_9 : decode cX3_become 9 = .ok (.aload_n 1, 1) := by decide +kernel
theorem dX3_become_10 : decode cX3_become 10 = .ok (.getfield 17, 3) := by decide +kernel
theorem dX3_become_13 : decode cX3_become 13 = .ok (.putfield 17, 3) := by decide +kernel
theorem dX3_become_16 : decode cX3_become 16 = .ok (.iconst 0, 1) := by decide +kernel
theorem dX3_become_17 : decode cX3_become 17 = .ok (.istore_n 2, 1) := by decide +kernel
theorem dX3_become_18 : decode cX3_become 18 = .ok (.iload_n 2, 1) := by decide +kernel
theorem dX3_become_19 : decode cX3_become 19 = .ok (.aload_n 0, 1) := by decide +kernel
theorem dX3_become_20 : decode cX3_become 20 = .ok (.getfield 22, 3) := by decide +kernel
theorem dX3_become_23 : decode cX3_become 23 = .ok (.if_icmp .ge 24, 3) := by decide +kernel
theorem dX3_become_26 : decode cX3_become 26 = .ok (.aload_n 0, 1) := by decide +kernel
theorem dX3_become_27 : decode cX3_become 27 = .ok (.getfield 11, 3) := by decide +kernel
theorem dX3_become_30 : decode cX3_become 30 = .ok (.iload_n 2, 1) := by decide +kernel
theorem dX3_become_31 : decode cX3_become 31 = .ok (.aaload, 1) := by decide +kernel
theorem dX3_become_32 : decode cX3_become 32 = .ok (.aload_n 1, 1) := by decide +kernel
theorem dX3_become_33 : decode cX3_become 33 = .ok (.getfield 11, 3) := by decide +kernel
theorem dX3_become_36 : decode cX3_become 36 = .ok (.iload_n 2, 1) := by decide +kernel
theorem dX3_become_37 : decode cX3_become 37 = .ok (.aaload, 1) := by decide +kernel
theorem dX3_become_38 : decode cX3_become 38 = .ok (.invokevirtual 25, 3) := by decide +kernel
theorem dX3_become_41 : decode cX3_become 41 = .ok (.iinc 2 1, 3) := by decide +kernel
theorem dX3_become_44 : decode cX3_become 44 = .ok (.goto (-26), 3) := by decide +kernel
theorem dX3_become_47 : decode cX3_become 47 = .ok (.return_, 1) := by decide +kernel
theorem dX3_isIn_0 : decode cX3_isIn 0 = .ok (.aload_n 0, 1) := by decide +kernel
theorem dX3_isIn_1 : decode cX3_isIn 1 = .ok (.getfield 17, 3) := by decide +kernel
theorem dX3_isIn_4 : decode cX3_isIn 4 = .ok (.iload_n 1, 1) := by decide +kernel
theorem dX3_isIn_5 : decode cX3_isIn 5 = .ok (.ishr, 1) := by decide +kernel
theorem dX3_isIn_6 : decode cX3_isIn 6 = .ok (.iconst 1, 1) := by decide +kernel
theorem dX3_isIn_7 : decode cX3_isIn 7 = .ok (.iand, 1) := by decide +kernel
theorem dX3_isIn_8 : decode cX3_isIn 8 = .ok (.ifCond .eq 7, 3) := by decide +kernel
theorem dX3_isIn_11 : decode cX3_isIn 11 = .ok (.iconst 1, 1) := by decide +kernel
theorem dX3_isIn_12 : decode cX3_isIn 12 = .ok (.goto 4, 3) := by decide +kernel
theorem dX3_isIn_15 : decode cX3_isIn 15 = .ok (.iconst 0, 1) := by decide +kernel
theorem dX3_isIn_16 : decode cX3_isIn 16 = .ok (.ireturn, 1) := by decide +kernel
theorem dX3_walkLeg_0 : decode cX3_walkLeg 0 = .ok (.aload_n 0, 1) := by decide +kernel
theorem dX3_walkLeg_1 : decode cX3_walkLeg 1 = .ok (.invokevirtual 29, 3) := by decide +kernel
theorem dX3_walkLeg_4 : decode cX3_walkLeg 4 = .ok (.istore_n 2, 1) := by decide +kernel
theorem dX3_walkLeg_5 : decode cX3_walkLeg 5 = .ok (.iconst 0, 1) := by decide +kernel
theorem dX3_walkLeg_6 : decode cX3_walkLeg 6 = .ok (.istore_n 3, 1) := by decide +kernel
theorem dX3_walkLeg_7 : decode cX3_walkLeg 7 = .ok (.iload_n 3, 1) := by decide +kernel
theorem dX3_walkLeg_8 : decode cX3_walkLeg 8 = .ok (.aload_n 0, 1) := by decide +kernel
theorem dX3_walkLeg_9 : decode cX3_walkLeg 9 = .ok (.getfield 22, 3) := by decide +kernel
theorem dX3_walkLeg_12 : decode cX3_walkLeg 12 = .ok (.if_icmp .ge 68, 3) := by decide +kernel
theorem dX3_walkLeg_15 : decode cX3_walkLeg 15 = .ok (.aload_n 0, 1) := by decide +kernel
theorem dX3_walkLeg_16 : decode cX3_walkLeg 16 = .ok (.iload_n 3, 1) := by decide +kernel
theorem dX3_walkLeg_17 : decode cX3_walkLeg 17 = .ok (.invokevirtual 33, 3) := by decide +kernel
theorem dX3_walkLeg_20 : decode cX3_walkLeg 20 = .ok (.ifCond .eq 54, 3) := by decide +kernel
theorem dX3_walkLeg_23 : decode cX3_walkLeg 23 = .ok (.aload_n 0, 1) := by decide +kernel
theorem dX3_walkLeg_24 : decode cX3_walkLeg 24 = .ok (.getfield 11, 3) := by decide +kernel
theorem dX3_walkLeg_27 : decode cX3_walkLeg 27 = .ok (.iload_n 3, 1) := by decide +kernel
theorem dX3_walkLeg_28 : decode cX3_walkLeg 28 = .ok (.aaload, 1) := by decide +kernel
theorem dX3_walkLeg_29 : decode cX3_walkLeg 29 = .ok (.astore 4, 2) := by decide +kernel
theorem dX3_walkLeg_31 : decode cX3_walkLeg 31 = .ok (.aload 4, 2) := by decide +kernel
theorem dX3_walkLeg_33 : decode cX3_walkLeg 33 = .ok (.aload 4, 2) := by decide +kernel
theorem dX3_walkLeg_35 : decode cX3_walkLeg 35 = .ok (.getfield 37, 3) := by decide +kernel
theorem dX3_walkLeg_38 : decode cX3_walkLeg 38 = .ok (.aload 4, 2) := by decide +kernel
theorem dX3_walkLeg_40 : decode cX3_walkLeg 40 = .ok (.iload_n 1, 1) := by decide +kernel
theorem dX3_walkLeg_41 : decode cX3_walkLeg 41 = .ok (.invokevirtual 40, 3) := by decide +kernel
theorem dX3_walkLeg_44 : decode cX3_walkLeg 44 = .ok (.iadd, 1) := by decide +kernel
theorem dX3_walkLeg_45 : decode cX3_walkLeg 45 = .ok (.putfield 44, 3) := by decide +kernel
theorem dX3_walkLeg_48 : decode cX3_walkLeg 48 = .ok (.aload 4, 2) := by decide +kernel
theorem dX3_walkLeg_50 : decode cX3_walkLeg 50 = .ok (.dup, 1) := by decide +kernel
theorem dX3_walkLeg_51 : decode cX3_walkLeg 51 = .ok (.getfield 47, 3) := by decide +kernel
theorem dX3_walkLeg_54 : decode cX3_walkLeg 54 = .ok (.aload 4, 2) := by decide +kernel
theorem dX3_walkLeg_56 : decode cX3_walkLeg 56 = .ok (.iload_n 1, 1) := by decide +kernel
theorem dX3_walkLeg_57 : decode cX3_walkLeg 57 = .ok (.iload_n 3, 1) := by decide +kernel
theorem dX3_walkLeg_58 : decode cX3_walkLeg 58 = .ok (.iload_n 2, 1) := by decide +kernel
theorem dX3_walkLeg_59 : decode cX3_walkLeg 59 = .ok (.if_icmp .ne 7, 3) := by decide +kernel
theorem dX3_walkLeg_62 : decode cX3_walkLeg 62 = .ok (.iconst 1, 1) := by decide +kernel
theorem dX3_walkLeg_63 : decode cX3_walkLeg 63 = .ok (.goto 4, 3) := by decide +kernel
theorem dX3_walkLeg_66 : decode cX3_walkLeg 66 = .ok (.iconst 0, 1) := by decide +kernel
theorem dX3_walkLeg_67 : decode cX3_walkLeg 67 = .ok (.invokevirtual 50, 3) := by decide +kernel
theorem dX3_walkLeg_70 : decode cX3_walkLeg 70 = .ok (.iadd, 1) := by decide +kernel
theorem dX3_walkLeg_71 : decode cX3_walkLeg 71 = .ok (.putfield 47, 3) := by decide +kernel
theorem dX3_walkLeg_74 : decode cX3_walkLeg 74 = .ok (.iinc 3 1, 3) := by decide +kernel
theorem dX3_walkLeg_77 : decode cX3_walkLeg 77 = .ok (.goto (-70), 3) := by decide +kernel
theorem dX3_walkLeg_80 : decode cX3_walkLeg 80 = .ok (.return_, 1) := by decide +kernel
theorem dX3_firstToLeave_0 : decode cX3_firstToLeave 0 = .ok (.iconst (-1), 1) := by decide +kernel
theorem dX3_firstToLeave_1 : decode cX3_firstToLeave 1 = .ok (.istore_n 1, 1) := by decide +kernel
theorem dX3_firstToLeave_2 : decode cX3_firstToLeave 2 = .ok (.iconst 0, 1) := by decide +kernel
theorem dX3_firstToLeave_3 : decode cX3_firstToLeave 3 = .ok (.istore_n 2, 1) := by decide +kernel
theorem dX3_firstToLeave_4 : decode cX3_firstToLeave 4 = .ok (.iload_n 2, 1) := by decide +kernel
theorem dX3_firstToLeave_5 : decode cX3_firstToLeave 5 = .ok (.aload_n 0, 1) := by decide +kernel
theorem dX3_firstToLeave_6 : decode cX3_firstToLeave 6 = .ok (.getfield 22, 3) := by decide +kernel
theorem dX3_firstToLeave_9 : decode cX3_firstToLeave 9 = .ok (.if_icmp .ge 44, 3) := by decide +kernel
theorem dX3_firstToLeave_12 : decode cX3_firstToLeave 12 = .ok (.aload_n 0, 1) := by decide +kernel
theorem dX3_firstToLeave_13 : decode cX3_firstToLeave 13 = .ok (.iload_n 2, 1) := by decide +kernel
theorem dX3_firstToLeave_14 : decode cX3_firstToLeave 14 = .ok (.invokevirtual 33, 3) := by decide +kernel
theorem dX3_firstToLeave_17 : decode cX3_firstToLeave 17 = .ok (.ifCond .eq 30, 3) := by decide +kernel
theorem dX3_firstToLeave_20 : decode cX3_firstToLeave 20 = .ok (.iload_n 1, 1) := by decide +kernel
theorem dX3_firstToLeave_21 : decode cX3_firstToLeave 21 = .ok (.ifCond .lt 24, 3) := by decide +kernel
theorem dX3_firstToLeave_24 : decode cX3_firstToLeave 24 = .ok (.aload_n 0, 1) := by decide +kernel
theorem dX3_firstToLeave_25 : decode cX3_firstToLeave 25 = .ok (.getfield 11, 3) := by decide +kernel
theorem dX3_firstToLeave_28 : decode cX3_firstToLeave 28 = .ok (.iload_n 2, 1) := by decide +kernel
theorem dX3_firstToLeave_29 : decode cX3_firstToLeave 29 = .ok (.aaload, 1) := by decide +kernel
theorem dX3_firstToLeave_30 : decode cX3_firstToLeave 30 = .ok (.getfield 37, 3) := by decide +kernel
theorem dX3_firstToLeave_33 : decode cX3_firstToLeave 33 = .ok (.aload_n 0, 1) := by decide +kernel
theorem dX3_firstToLeave_34 : decode cX3_firstToLeave 34 = .ok (.getfield 11, 3) := by decide +kernel
theorem dX3_firstToLeave_37 : decode cX3_firstToLeave 37 = .ok (.iload_n 1, 1) := by decide +kernel
theorem dX3_firstToLeave_38 : decode cX3_firstToLeave 38 = .ok (.aaload, 1) := by decide +kernel
theorem dX3_firstToLeave_39 : decode cX3_firstToLeave 39 = .ok (.getfield 37, 3) := by decide +kernel
theorem dX3_firstToLeave_42 : decode cX3_firstToLeave 42 = .ok (.if_icmp .ge 5, 3) := by decide +kernel
theorem dX3_firstToLeave_45 : decode cX3_firstToLeave 45 = .ok (.iload_n 2, 1) := by decide +kernel
theorem dX3_firstToLeave_46 : decode cX3_firstToLeave 46 = .ok (.istore_n 1, 1) := by decide +kernel
theorem dX3_firstToLeave_47 : decode cX3_firstToLeave 47 = .ok (.iinc 2 1, 3) := by decide +kernel
theorem dX3_firstToLeave_50 : decode cX3_firstToLeave 50 = .ok (.goto (-46), 3) := by decide +kernel
theorem dX3_firstToLeave_53 : decode cX3_firstToLeave 53 = .ok (.iload_n 1, 1) := by decide +kernel
theorem dX3_firstToLeave_54 : decode cX3_firstToLeave 54 = .ok (.ireturn, 1) := by decide +kernel
theorem dX3_leaveGate_0 : decode cX3_leaveGate 0 = .ok (.aload_n 0, 1) := by decide +kernel
theorem dX3_leaveGate_1 : decode cX3_leaveGate 1 = .ok (.invokevirtual 54, 3) := by decide +kernel
theorem dX3_leaveGate_4 : decode cX3_leaveGate 4 = .ok (.istore_n 3, 1) := by decide +kernel
theorem dX3_leaveGate_5 : decode cX3_leaveGate 5 = .ok (.aload_n 0, 1) := by decide +kernel
theorem dX3_leaveGate_6 : decode cX3_leaveGate 6 = .ok (.invokevirtual 57, 3) := by decide +kernel
theorem dX3_leaveGate_9 : decode cX3_leaveGate 9 = .ok (.istore 4, 2) := by decide +kernel
theorem dX3_leaveGate_11 : decode cX3_leaveGate 11 = .ok (.iconst 0, 1) := by decide +kernel
theorem dX3_leaveGate_12 : decode cX3_leaveGate 12 = .ok (.istore 5, 2) := by decide +kernel
theorem dX3_leaveGate_14 : decode cX3_leaveGate 14 = .ok (.iload 5, 2) := by decide +kernel
theorem dX3_leaveGate_16 : decode cX3_leaveGate 16 = .ok (.aload_n 0, 1) := by decide +kernel
theorem dX3_leaveGate_17 : decode cX3_leaveGate 17 = .ok (.getfield 22, 3) := by decide +kernel
theorem dX3_leaveGate_20 : decode cX3_leaveGate 20 = .ok (.if_icmp .ge 46, 3) := by decide +kernel
theorem dX3_leaveGate_23 : decode cX3_leaveGate 23 = .ok (.aload_n 0, 1) := by decide +kernel
theorem dX3_leaveGate_24 : decode cX3_leaveGate 24 = .ok (.iload 5, 2) := by decide +kernel
theorem dX3_leaveGate_26 : decode cX3_leaveGate 26 = .ok (.invokevirtual 33, 3) := by decide +kernel
theorem dX3_leaveGate_29 : decode cX3_leaveGate 29 = .ok (.ifCond .eq 31, 3) := by decide +kernel
theorem dX3_leaveGate_32 : decode cX3_leaveGate 32 = .ok (.aload_n 0, 1) := by decide +kernel
theorem dX3_leaveGate_33 : decode cX3_leaveGate 33 = .ok (.getfield 11, 3) := by decide +kernel
theorem dX3_leaveGate_36 : decode cX3_leaveGate 36 = .ok (.iload 5, 2) := by decide +kernel
theorem dX3_leaveGate_38 : decode cX3_leaveGate 38 = .ok (.aaload, 1) := by decide +kernel
theorem dX3_leaveGate_39 : decode cX3_leaveGate 39 = .ok (.iload_n 1, 1) := by decide +kernel
theorem dX3_leaveGate_40 : decode cX3_leaveGate 40 = .ok (.iload_n 2, 1) := by decide +kernel
theorem dX3_leaveGate_41 : decode cX3_leaveGate 41 = .ok (.aload_n 0, 1) := by decide +kernel
theorem dX3_leaveGate_42 : decode cX3_leaveGate 42 = .ok (.getfield 11, 3) := by decide +kernel
theorem dX3_leaveGate_45 : decode cX3_leaveGate 45 = .ok (.iload 5, 2) := by decide +kernel
theorem dX3_leaveGate_47 : decode cX3_leaveGate 47 = .ok (.aaload, 1) := by decide +kernel
theorem dX3_leaveGate_48 : decode cX3_leaveGate 48 = .ok (.getfield 44, 3) := by decide +kernel
theorem dX3_leaveGate_51 : decode cX3_leaveGate 51 = .ok (.iload_n 3, 1) := by decide +kernel
theorem dX3_leaveGate_52 : decode cX3_leaveGate 52 = .ok (.iload 4, 2) := by decide +kernel
theorem dX3_leaveGate_54 : decode cX3_leaveGate 54 = .ok (.invokestatic 60, 3) := by decide +kernel
theorem dX3_leaveGate_57 : decode cX3_leaveGate 57 = .ok (.invokevirtual 64, 3) := by decide +kernel
theorem dX3_leaveGate_60 : decode cX3_leaveGate 60 = .ok (.iinc 5 1, 3) := by decide +kernel
theorem dX3_leaveGate_63 : decode cX3_leaveGate 63 = .ok (.goto (-49), 3) := by decide +kernel
theorem dX3_leaveGate_66 : decode cX3_leaveGate 66 = .ok (.return_, 1) := by decide +kernel
theorem dX3_leavesAt_0 : decode cX3_leavesAt 0 = .ok (.iload_n 0, 1) := by decide +kernel
theorem dX3_leavesAt_1 : decode cX3_leavesAt 1 = .ok (.tableswitch 43 0 2 #[27, 30, 35], 27) := by decide +kernel
theorem dX3_leavesAt_28 : decode cX3_leavesAt 28 = .ok (.iload 4, 2) := by decide +kernel
theorem dX3_leavesAt_30 : decode cX3_leavesAt 30 = .ok (.ireturn, 1) := by decide +kernel
theorem dX3_leavesAt_31 : decode cX3_leavesAt 31 = .ok (.iload 4, 2) := by decide +kernel
theorem dX3_leavesAt_33 : decode cX3_leavesAt 33 = .ok (.iload_n 1, 1) := by decide +kernel
theorem dX3_leavesAt_34 : decode cX3_leavesAt 34 = .ok (.iadd, 1) := by decide +kernel
theorem dX3_leavesAt_35 : decode cX3_leavesAt 35 = .ok (.ireturn, 1) := by decide +kernel
theorem dX3_leavesAt_36 : decode cX3_leavesAt 36 = .ok (.iload_n 3, 1) := by decide +kernel
theorem dX3_leavesAt_37 : decode cX3_leavesAt 37 = .ok (.iload_n 1, 1) := by decide +kernel
theorem dX3_leavesAt_38 : decode cX3_leavesAt 38 = .ok (.iadd, 1) := by decide +kernel
theorem dX3_leavesAt_39 : decode cX3_leavesAt 39 = .ok (.iload_n 2, 1) := by decide +kernel
theorem dX3_leavesAt_40 : decode cX3_leavesAt 40 = .ok (.invokestatic 68, 3) := by decide +kernel
theorem dX3_leavesAt_43 : decode cX3_leavesAt 43 = .ok (.ireturn, 1) := by decide +kernel
theorem dX3_leavesAt_44 : decode cX3_leavesAt 44 = .ok (.iload_n 2, 1) := by decide +kernel
theorem dX3_leavesAt_45 : decode cX3_leavesAt 45 = .ok (.ireturn, 1) := by decide +kernel
theorem dX3_firstCame_0 : decode cX3_firstCame 0 = .ok (.iconst (-1), 1) := by decide +kernel
theorem dX3_firstCame_1 : decode cX3_firstCame 1 = .ok (.istore_n 1, 1) := by decide +kernel
theorem dX3_firstCame_2 : decode cX3_firstCame 2 = .ok (.iconst 0, 1) := by decide +kernel
theorem dX3_firstCame_3 : decode cX3_firstCame 3 = .ok (.istore_n 2, 1) := by decide +kernel
theorem dX3_firstCame_4 : decode cX3_firstCame 4 = .ok (.iload_n 2, 1) := by decide +kernel
theorem dX3_firstCame_5 : decode cX3_firstCame 5 = .ok (.aload_n 0, 1) := by decide +kernel
theorem dX3_firstCame_6 : decode cX3_firstCame 6 = .ok (.getfield 22, 3) := by decide +kernel
theorem dX3_firstCame_9 : decode cX3_firstCame 9 = .ok (.if_icmp .ge 44, 3) := by decide +kernel
theorem dX3_firstCame_12 : decode cX3_firstCame 12 = .ok (.aload_n 0, 1) := by decide +kernel
theorem dX3_firstCame_13 : decode cX3_firstCame 13 = .ok (.iload_n 2, 1) := by decide +kernel
theorem dX3_firstCame_14 : decode cX3_firstCame 14 = .ok (.invokevirtual 33, 3) := by decide +kernel
theorem dX3_firstCame_17 : decode cX3_firstCame 17 = .ok (.ifCond .eq 30, 3) := by decide +kernel
theorem dX3_firstCame_20 : decode cX3_firstCame 20 = .ok (.iload_n 1, 1) := by decide +kernel
theorem dX3_firstCame_21 : decode cX3_firstCame 21 = .ok (.ifCond .lt 16, 3) := by decide +kernel
theorem dX3_firstCame_24 : decode cX3_firstCame 24 = .ok (.aload_n 0, 1) := by decide +kernel
theorem dX3_firstCame_25 : decode cX3_firstCame 25 = .ok (.getfield 11, 3) := by decide +kernel
theorem dX3_firstCame_28 : decode cX3_firstCame 28 = .ok (.iload_n 2, 1) := by decide +kernel
theorem dX3_firstCame_29 : decode cX3_firstCame 29 = .ok (.aaload, 1) := by decide +kernel
theorem dX3_firstCame_30 : decode cX3_firstCame 30 = .ok (.getfield 44, 3) := by decide +kernel
theorem dX3_firstCame_33 : decode cX3_firstCame 33 = .ok (.iload_n 1, 1) := by decide +kernel
theorem dX3_firstCame_34 : decode cX3_firstCame 34 = .ok (.if_icmp .ge 13, 3) := by decide +kernel
theorem dX3_firstCame_37 : decode cX3_firstCame 37 = .ok (.aload_n 0, 1) := by decide +kernel
theorem dX3_firstCame_38 : decode cX3_firstCame 38 = .ok (.getfield 11, 3) := by decide +kernel
theorem dX3_firstCame_41 : decode cX3_firstCame 41 = .ok (.iload_n 2, 1) := by decide +kernel
theorem dX3_firstCame_42 : decode cX3_firstCame 42 = .ok (.aaload, 1) := by decide +kernel
theorem dX3_firstCame_43 : decode cX3_firstCame 43 = .ok (.getfield 44, 3) := by decide +kernel
theorem dX3_firstCame_46 : decode cX3_firstCame 46 = .ok (.istore_n 1, 1) := by decide +kernel
theorem dX3_firstCame_47 : decode cX3_firstCame 47 = .ok (.iinc 2 1, 3) := by decide +kernel
theorem dX3_firstCame_50 : decode cX3_firstCame 50 = .ok (.goto (-46), 3) := by decide +kernel
theorem dX3_firstCame_53 : decode cX3_firstCame 53 = .ok (.iload_n 1, 1) := by decide +kernel
theorem dX3_firstCame_54 : decode cX3_firstCame 54 = .ok (.ireturn, 1) := by decide +kernel
theorem dX3_lastCame_0 : decode cX3_lastCame 0 = .ok (.iconst 0, 1) := by decide +kernel
theorem dX3_lastCame_1 : decode cX3_lastCame 1 = .ok (.istore_n 1, 1) := by decide +kernel
theorem dX3_lastCame_2 : decode cX3_lastCame 2 = .ok (.iconst 0, 1) := by decide +kernel
theorem dX3_lastCame_3 : decode cX3_lastCame 3 = .ok (.istore_n 2, 1) := by decide +kernel
theorem dX3_lastCame_4 : decode cX3_lastCame 4 = .ok (.iload_n 2, 1) := by decide +kernel
theorem dX3_lastCame_5 : decode cX3_lastCame 5 = .ok (.aload_n 0, 1) := by decide +kernel
theorem dX3_lastCame_6 : decode cX3_lastCame 6 = .ok (.getfield 22, 3) := by decide +kernel
theorem dX3_lastCame_9 : decode cX3_lastCame 9 = .ok (.if_icmp .ge 31, 3) := by decide +kernel
theorem dX3_lastCame_12 : decode cX3_lastCame 12 = .ok (.aload_n 0, 1) := by decide +kernel
theorem dX3_lastCame_13 : decode cX3_lastCame 13 = .ok (.iload_n 2, 1) := by decide +kernel
theorem dX3_lastCame_14 : decode cX3_lastCame 14 = .ok (.invokevirtual 33, 3) := by decide +kernel
theorem dX3_lastCame_17 : decode cX3_lastCame 17 = .ok (.ifCond .eq 17, 3) := by decide +kernel
theorem dX3_lastCame_20 : decode cX3_lastCame 20 = .ok (.iload_n 1, 1) := by decide +kernel
theorem dX3_lastCame_21 : decode cX3_lastCame 21 = .ok (.aload_n 0, 1) := by decide +kernel
theorem dX3_lastCame_22 : decode cX3_lastCame 22 = .ok (.getfield 11, 3) := by decide +kernel
theorem dX3_lastCame_25 : decode cX3_lastCame 25 = .ok (.iload_n 2, 1) := by decide +kernel
theorem dX3_lastCame_26 : decode cX3_lastCame 26 = .ok (.aaload, 1) := by decide +kernel
theorem dX3_lastCame_27 : decode cX3_lastCame 27 = .ok (.getfield 44, 3) := by decide +kernel
theorem dX3_lastCame_30 : decode cX3_lastCame 30 = .ok (.invokestatic 68, 3) := by decide +kernel
theorem dX3_lastCame_33 : decode cX3_lastCame 33 = .ok (.istore_n 1, 1) := by decide +kernel
theorem dX3_lastCame_34 : decode cX3_lastCame 34 = .ok (.iinc 2 1, 3) := by decide +kernel
theorem dX3_lastCame_37 : decode cX3_lastCame 37 = .ok (.goto (-33), 3) := by decide +kernel
theorem dX3_lastCame_40 : decode cX3_lastCame 40 = .ok (.iload_n 1, 1) := by decide +kernel
theorem dX3_lastCame_41 : decode cX3_lastCame 41 = .ok (.ireturn, 1) := by decide +kernel
theorem dX3_lastMinute_0 : decode cX3_lastMinute 0 = .ok (.iconst 0, 1) := by decide +kernel
theorem dX3_lastMinute_1 : decode cX3_lastMinute 1 = .ok (.istore_n 1, 1) := by decide +kernel
theorem dX3_lastMinute_2 : decode cX3_lastMinute 2 = .ok (.iconst 0, 1) := by decide +kernel
theorem dX3_lastMinute_3 : decode cX3_lastMinute 3 = .ok (.istore_n 2, 1) := by decide +kernel
theorem dX3_lastMinute_4 : decode cX3_lastMinute 4 = .ok (.iload_n 2, 1) := by decide +kernel
theorem dX3_lastMinute_5 : decode cX3_lastMinute 5 = .ok (.aload_n 0, 1) := by decide +kernel
theorem dX3_lastMinute_6 : decode cX3_lastMinute 6 = .ok (.getfield 22, 3) := by decide +kernel
theorem dX3_lastMinute_9 : decode cX3_lastMinute 9 = .ok (.if_icmp .ge 31, 3) := by decide +kernel
theorem dX3_lastMinute_12 : decode cX3_lastMinute 12 = .ok (.aload_n 0, 1) := by decide +kernel
theorem dX3_lastMinute_13 : decode cX3_lastMinute 13 = .ok (.iload_n 2, 1) := by decide +kernel
theorem dX3_lastMinute_14 : decode cX3_lastMinute 14 = .ok (.invokevirtual 33, 3) := by decide +kernel
theorem dX3_lastMinute_17 : decode cX3_lastMinute 17 = .ok (.ifCond .eq 17, 3) := by decide +kernel
theorem dX3_lastMinute_20 : decode cX3_lastMinute 20 = .ok (.iload_n 1, 1) := by decide +kernel
theorem dX3_lastMinute_21 : decode cX3_lastMinute 21 = .ok (.aload_n 0, 1) := by decide +kernel
theorem dX3_lastMinute_22 : decode cX3_lastMinute 22 = .ok (.getfield 11, 3) := by decide +kernel
theorem dX3_lastMinute_25 : decode cX3_lastMinute 25 = .ok (.iload_n 2, 1) := by decide +kernel
theorem dX3_lastMinute_26 : decode cX3_lastMinute 26 = .ok (.aaload, 1) := by decide +kernel
theorem dX3_lastMinute_27 : decode cX3_lastMinute 27 = .ok (.getfield 37, 3) := by decide +kernel
theorem dX3_lastMinute_30 : decode cX3_lastMinute 30 = .ok (.invokestatic 68, 3) := by decide +kernel
theorem dX3_lastMinute_33 : decode cX3_lastMinute 33 = .ok (.istore_n 1, 1) := by decide +kernel
theorem dX3_lastMinute_34 : decode cX3_lastMinute 34 = .ok (.iinc 2 1, 3) := by decide +kernel
theorem dX3_lastMinute_37 : decode cX3_lastMinute 37 = .ok (.goto (-33), 3) := by decide +kernel
theorem dX3_lastMinute_40 : decode cX3_lastMinute 40 = .ok (.iload_n 1, 1) := by decide +kernel
theorem dX3_lastMinute_41 : decode cX3_lastMinute 41 = .ok (.ireturn, 1) := by decide +kernel
theorem dX4_init_0 : decode cX4_init 0 = .ok (.aload_n 0, 1) := by decide +kernel
theorem dX4_init_1 : decode cX4_init 1 = .ok (.invokespecial 3, 3) := by decide +kernel
theorem dX4_init_4 : decode cX4_init 4 = .ok (.aload_n 0, 1) := by decide +kernel
theorem dX4_init_5 : decode cX4_init 5 = .ok (.bipush 120, 2) := by decide +kernel
theorem dX4_init_7 : decode cX4_init 7 = .ok (.newarray .int, 2) := by decide +kernel
theorem dX4_init_9 : decode cX4_init 9 = .ok (.putfield 11, 3) := by decide +kernel
theorem dX4_init_12 : decode cX4_init 12 = .ok (.return_, 1) := by decide +kernel
theorem dX4_append_0 : decode cX4_append 0 = .ok (.aload_n 0, 1) := by decide +kernel
theorem dX4_append_1 : decode cX4_append 1 = .ok (.getfield 11, 3) := by decide +kernel
theorem dX4_append_4 : decode cX4_append 4 = .ok (.aload_n 0, 1) := by decide +kernel
theorem dX4_append_5 : decode cX4_append 5 = .ok (.getfield 15, 3) := by decide +kernel
theorem dX4_append_8 : decode cX4_append 8 = .ok (.iload_n 1, 1) := by decide +kernel
theorem dX4_append_9 : decode cX4_append 9 = .ok (.iastore, 1) := by decide +kernel
theorem dX4_append_10 : decode cX4_append 10 = .ok (.aload_n 0, 1) := by decide +kernel
theorem dX4_append_11 : decode cX4_append 11 = .ok (.dup, 1) := by decide +kernel
theorem dX4_append_12 : decode cX4_append 12 = .ok (.getfield 15, 3) := by decide +kernel
theorem dX4_append_15 : decode cX4_append 15 = .ok (.iconst 1, 1) := by decide +kernel
theorem dX4_append_16 : decode cX4_append 16 = .ok (.iadd, 1) := by decide +kernel
theorem dX4_append_17 : decode cX4_append 17 = .ok (.putfield 15, 3) := by decide +kernel
theorem dX4_append_20 : decode cX4_append 20 = .ok (.aload_n 0, 1) := by decide +kernel
theorem dX4_append_21 : decode cX4_append 21 = .ok (.getfield 15, 3) := by decide +kernel
theorem dX4_append_24 : decode cX4_append 24 = .ok (.ireturn, 1) := by decide +kernel
theorem dX4_readInto_0 : decode cX4_readInto 0 = .ok (.aload_n 0, 1) := by decide +kernel
theorem dX4_readInto_1 : decode cX4_readInto 1 = .ok (.iconst 0, 1) := by decide +kernel
theorem dX4_readInto_2 : decode cX4_readInto 2 = .ok (.putfield 19, 3) := by decide +kernel
theorem dX4_readInto_5 : decode cX4_readInto 5 = .ok (.aload_n 0, 1) := by decide +kernel
theorem dX4_readInto_6 : decode cX4_readInto 6 = .ok (.iconst 0, 1) := by decide +kernel
theorem dX4_readInto_7 : decode cX4_readInto 7 = .ok (.putfield 22, 3) := by decide +kernel
theorem dX4_readInto_10 : decode cX4_readInto 10 = .ok (.aload_n 0, 1) := by decide +kernel
theorem dX4_readInto_11 : decode cX4_readInto 11 = .ok (.invokevirtual 25, 3) := by decide +kernel
theorem dX4_readInto_14 : decode cX4_readInto 14 = .ok (.aload_n 0, 1) := by decide +kernel
theorem dX4_readInto_15 : decode cX4_readInto 15 = .ok (.aload_n 1, 1) := by decide +kernel
theorem dX4_readInto_16 : decode cX4_readInto 16 = .ok (.invokevirtual 28, 3) := by decide +kernel
theorem dX4_readInto_19 : decode cX4_readInto 19 = .ok (.aload_n 0, 1) := by decide +kernel
theorem dX4_readInto_20 : decode cX4_readInto 20 = .ok (.aload_n 1, 1) := by decide +kernel
theorem dX4_readInto_21 : decode cX4_readInto 21 = .ok (.invokevirtual 32, 3) := by decide +kernel
theorem dX4_readInto_24 : decode cX4_readInto 24 = .ok (.aload_n 0, 1) := by decide +kernel
theorem dX4_readInto_25 : decode cX4_readInto 25 = .ok (.aload_n 1, 1) := by decide +kernel
theorem dX4_readInto_26 : decode cX4_readInto 26 = .ok (.invokevirtual 35, 3) := by decide +kernel
theorem dX4_readInto_29 : decode cX4_readInto 29 = .ok (.aload_n 0, 1) := by decide +kernel
theorem dX4_readInto_30 : decode cX4_readInto 30 = .ok (.iconst 0, 1) := by decide +kernel
theorem dX4_readInto_31 : decode cX4_readInto 31 = .ok (.putfield 15, 3) := by decide +kernel
theorem dX4_readInto_34 : decode cX4_readInto 34 = .ok (.aload_n 0, 1) := by decide +kernel
theorem dX4_readInto_35 : decode cX4_readInto 35 = .ok (.getfield 19, 3) := by decide +kernel
theorem dX4_readInto_38 : decode cX4_readInto 38 = .ok (.ifCond .eq 11, 3) := by decide +kernel
theorem dX4_readInto_41 : decode cX4_readInto 41 = .ok (.aload_n 0, 1) := by decide +kernel
theorem dX4_readInto_42 : decode cX4_readInto 42 = .ok (.aload_n 0, 1) := by decide +kernel
theorem dX4_readInto_43 : decode cX4_readInto 43 = .ok (.getfield 19, 3) := by decide +kernel
theorem dX4_readInto_46 : decode cX4_readInto 46 = .ok (.putfield 38, 3) := by decide +kernel
theorem dX4_readInto_49 : decode cX4_readInto 49 = .ok (.aload_n 1, 1) := by decide +kernel
theorem dX4_readInto_50 : decode cX4_readInto 50 = .ok (.aload_n 0, 1) := by decide +kernel
theorem dX4_readInto_51 : decode cX4_readInto 51 = .ok (.getfield 19, 3) := by decide +kernel
theorem dX4_readInto_54 : decode cX4_readInto 54 = .ok (.ifCond .ne 7, 3) := by decide +kernel
theorem dX4_readInto_57 : decode cX4_readInto 57 = .ok (.iconst 1, 1) := by decide +kernel
theorem dX4_readInto_58 : decode cX4_readInto 58 = .ok (.goto 4, 3) := by decide +kernel
theorem dX4_readInto_61 : decode cX4_readInto 61 = .ok (.iconst 0, 1) := by decide +kernel
theorem dX4_readInto_62 : decode cX4_readInto 62 = .ok (.putfield 41, 3) := by decide +kernel
theorem dX4_readInto_65 : decode cX4_readInto 65 = .ok (.aload_n 1, 1) := by decide +kernel
theorem dX4_readInto_66 : decode cX4_readInto 66 = .ok (.getfield 41, 3) := by decide +kernel
theorem dX4_readInto_69 : decode cX4_readInto 69 = .ok (.ireturn, 1) := by decide +kernel
theorem dX4_readLegs_0 : decode cX4_readLegs 0 = .ok (.aload_n 0, 1) := by decide +kernel
theorem dX4_readLegs_1 : decode cX4_readLegs 1 = .ok (.bipush 119, 2) := by decide +kernel
theorem dX4_readLegs_3 : decode cX4_readLegs 3 = .ok (.invokevirtual 47, 3) := by decide +kernel
theorem dX4_readLegs_6 : decode cX4_readLegs 6 = .ok (.iconst 1, 1) := by decide +kernel
theorem dX4_readLegs_7 : decode cX4_readLegs 7 = .ok (.istore_n 2, 1) := by decide +kernel
theorem dX4_readLegs_8 : decode cX4_readLegs 8 = .ok (.iconst 0, 1) := by decide +kernel
theorem dX4_readLegs_9 : decode cX4_readLegs 9 = .ok (.istore_n 3, 1) := by decide +kernel
theorem dX4_readLegs_10 : decode cX4_readLegs 10 = .ok (.iload_n 3, 1) := by decide +kernel
theorem dX4_readLegs_11 : decode cX4_readLegs 11 = .ok (.bipush 8, 2) := by decide +kernel
theorem dX4_readLegs_13 : decode cX4_readLegs 13 = .ok (.if_icmp .gt 62, 3) := by decide +kernel
theorem dX4_readLegs_16 : decode cX4_readLegs 16 = .ok (.iload_n 2, 1) := by decide +kernel
theorem dX4_readLegs_17 : decode cX4_readLegs 17 = .ok (.ifCond .eq 58, 3) := by decide +kernel
theorem dX4_readLegs_20 : decode cX4_readLegs 20 = .ok (.aload_n 0, 1) := by decide +kernel
theorem dX4_readLegs_21 : decode cX4_readLegs 21 = .ok (.iconst 1, 1) := by decide +kernel
theorem dX4_readLegs_22 : decode cX4_readLegs 22 = .ok (.bipush 9, 2) := by decide +kernel
theorem dX4_readLegs_24 : decode cX4_readLegs 24 = .ok (.iload_n 3, 1) := by decide +kernel
theorem dX4_readLegs_25 : decode cX4_readLegs 25 = .ok (.bipush 8, 2) := by decide +kernel
theorem dX4_readLegs_27 : decode cX4_readLegs 27 = .ok (.if_icmp .ge 7, 3) := by decide +kernel
theorem dX4_readLegs_30 : decode cX4_readLegs 30 = .ok (.iconst 1, 1) := by decide +kernel
theorem dX4_readLegs_31 : decode cX4_readLegs 31 = .ok (.goto 4, 3) := by decide +kernel
theorem dX4_readLegs_34 : decode cX4_readLegs 34 = .ok (.iconst 0, 1) := by decide +kernel
theorem dX4_readLegs_35 : decode cX4_readLegs 35 = .ok (.invokevirtual 51, 3) := by decide +kernel
theorem dX4_readLegs_38 : decode cX4_readLegs 38 = .ok (.istore 4, 2) := by decide +kernel
theorem dX4_readLegs_40 : decode cX4_readLegs 40 = .ok (.aload_n 0, 1) := by decide +kernel
theorem dX4_readLegs_41 : decode cX4_readLegs 41 = .ok (.getfield 19, 3) := by decide +kernel
theorem dX4_readLegs_44 : decode cX4_readLegs 44 = .ok (.ifCond .ne 18, 3) := by decide +kernel
theorem dX4_readLegs_47 : decode cX4_readLegs 47 = .ok (.aload_n 1, 1) := by decide +kernel
theorem dX4_readLegs_48 : decode cX4_readLegs 48 = .ok (.getfield 55, 3) := by decide +kernel
theorem dX4_readLegs_51 : decode cX4_readLegs 51 = .ok (.iload_n 3, 1) := by decide +kernel
theorem dX4_readLegs_52 : decode cX4_readLegs 52 = .ok (.iload 4, 2) := by decide +kernel
theorem dX4_readLegs_54 : decode cX4_readLegs 54 = .ok (.iastore, 1) := by decide +kernel
theorem dX4_readLegs_55 : decode cX4_readLegs 55 = .ok (.aload_n 1, 1) := by decide +kernel
theorem dX4_readLegs_56 : decode cX4_readLegs 56 = .ok (.iload_n 3, 1) := by decide +kernel
theorem dX4_readLegs_57 : decode cX4_readLegs 57 = .ok (.iconst 1, 1) := by decide +kernel
theorem dX4_readLegs_58 : decode cX4_readLegs 58 = .ok (.iadd, 1) := by decide +kernel
theorem dX4_readLegs_59 : decode cX4_readLegs 59 = .ok (.putfield 58, 3) := by decide +kernel
theorem dX4_readLegs_62 : decode cX4_readLegs 62 = .ok (.aload_n 0, 1) := by decide +kernel
theorem dX4_readLegs_63 : decode cX4_readLegs 63 = .ok (.bipush 44, 2) := by decide +kernel
theorem dX4_readLegs_65 : decode cX4_readLegs 65 = .ok (.invokevirtual 61, 3) := by decide +kernel
theorem dX4_readLegs_68 : decode cX4_readLegs 68 = .ok (.istore_n 2, 1) := by decide +kernel
theorem dX4_readLegs_69 : decode cX4_readLegs 69 = .ok (.iinc 3 1, 3) := by decide +kernel
theorem dX4_readLegs_72 : decode cX4_readLegs 72 = .ok (.goto (-62), 3) := by decide +kernel
theorem dX4_readLegs_75 : decode cX4_readLegs 75 = .ok (.aload_n 0, 1) := by decide +kernel
theorem dX4_readLegs_76 : decode cX4_readLegs 76 = .ok (.bipush 59, 2) := by decide +kernel
theorem dX4_readLegs_78 : decode cX4_readLegs 78 = .ok (.invokevirtual 47, 3) := by decide +kernel
theorem dX4_readLegs_81 : decode cX4_readLegs 81 = .ok (.return_, 1) := by decide +kernel
theorem dX4_readRule_0 : decode cX4_readRule 0 = .ok (.aload_n 0, 1) := by decide +kernel
theorem dX4_readRule_1 : decode cX4_readRule 1 = .ok (.bipush 114, 2) := by decide +kernel
theorem dX4_readRule_3 : decode cX4_readRule 3 = .ok (.invokevirtual 47, 3) := by decide +kernel
theorem dX4_readRule_6 : decode cX4_readRule 6 = .ok (.aload_n 1, 1) := by decide +kernel
theorem dX4_readRule_7 : decode cX4_readRule 7 = .ok (.aload_n 0, 1) := by decide +kernel
theorem dX4_readRule_8 : decode cX4_readRule 8 = .ok (.iconst 0, 1) := by decide +kernel
theorem dX4_readRule_9 : decode cX4_readRule 9 = .ok (.iconst 3, 1) := by decide +kernel
theorem dX4_readRule_10 : decode cX4_readRule 10 = .ok (.iconst 1, 1) := by decide +kernel
theorem dX4_readRule_11 : decode cX4_readRule 11 = .ok (.invokevirtual 51, 3) := by decide +kernel
theorem dX4_readRule_14 : decode cX4_readRule 14 = .ok (.putfield 65, 3) := by decide +kernel
theorem dX4_readRule_17 : decode cX4_readRule 17 = .ok (.aload_n 0, 1) := by decide +kernel
theorem dX4_readRule_18 : decode cX4_readRule 18 = .ok (.bipush 44, 2) := by decide +kernel
theorem dX4_readRule_20 : decode cX4_readRule 20 = .ok (.invokevirtual 47, 3) := by decide +kernel
theorem dX4_readRule_23 : decode cX4_readRule 23 = .ok (.aload_n 1, 1) := by decide +kernel
theorem dX4_readRule_24 : decode cX4_readRule 24 = .ok (.aload_n 0, 1) := by decide +kernel
theorem dX4_readRule_25 : decode cX4_readRule 25 = .ok (.iconst 0, 1) := by decide +kernel
theorem dX4_readRule_26 : decode cX4_readRule 26 = .ok (.bipush 30, 2) := by decide +kernel
theorem dX4_readRule_28 : decode cX4_readRule 28 = .ok (.iconst 1, 1) := by decide +kernel
theorem dX4_readRule_29 : decode cX4_readRule 29 = .ok (.invokevirtual 51, 3) := by decide +kernel
theorem dX4_readRule_32 : decode cX4_readRule 32 = .ok (.putfield 68, 3) := by decide +kernel
theorem dX4_readRule_35 : decode cX4_readRule 35 = .ok (.aload_n 0, 1) := by decide +kernel
theorem dX4_readRule_36 : decode cX4_readRule 36 = .ok (.bipush 44, 2) := by decide +kernel
theorem dX4_readRule_38 : decode cX4_readRule 38 = .ok (.invokevirtual 47, 3) := by decide +kernel
theorem dX4_readRule_41 : decode cX4_readRule 41 = .ok (.aload_n 1, 1) := by decide +kernel
theorem dX4_readRule_42 : decode cX4_readRule 42 = .ok (.aload_n 0, 1) := by decide +kernel
theorem dX4_readRule_43 : decode cX4_readRule 43 = .ok (.iconst 1, 1) := by decide +kernel
theorem dX4_readRule_44 : decode cX4_readRule 44 = .ok (.sipush 999, 3) := by decide +kernel
theorem dX4_readRule_47 : decode cX4_readRule 47 = .ok (.iconst 1, 1) := by decide +kernel
theorem dX4_readRule_48 : decode cX4_readRule 48 = .ok (.invokevirtual 51, 3) := by decide +kernel
theorem dX4_readRule_51 : decode cX4_readRule 51 = .ok (.putfield 71, 3) := by decide +kernel
theorem dX4_readRule_54 : decode cX4_readRule 54 = .ok (.aload_n 0, 1) := by decide +kernel
theorem dX4_readRule_55 : decode cX4_readRule 55 = .ok (.bipush 59, 2) := by decide +kernel
theorem dX4_readRule_57 : decode cX4_readRule 57 = .ok (.invokevirtual 47, 3) := by decide +kernel
theorem dX4_readRule_60 : decode cX4_readRule 60 = .ok (.return_, 1) := by decide +kernel
theorem dX4_readWalkers_0 : decode cX4_readWalkers 0 = .ok (.aload_n 1, 1) := by decide +kernel
theorem dX4_readWalkers_1 : decode cX4_readWalkers 1 = .ok (.getfield 74, 3) := by decide +kernel
theorem dX4_readWalkers_4 : decode cX4_readWalkers 4 = .ok (.iconst 0, 1) := by decide +kernel
theorem dX4_readWalkers_5 : decode cX4_readWalkers 5 = .ok (.putfield 78, 3) := by decide +kernel
theorem dX4_readWalkers_8 : decode cX4_readWalkers 8 = .ok (.iconst 0, 1) := by decide +kernel
theorem dX4_readWalkers_9 : decode cX4_readWalkers 9 = .ok (.istore_n 2, 1) := by decide +kernel
theorem dX4_readWalkers_10 : decode cX4_readWalkers 10 = .ok (.iload_n 2, 1) := by decide +kernel
theorem dX4_readWalkers_11 : decode cX4_readWalkers 11 = .ok (.bipush 6, 2) := by decide +kernel
theorem dX4_readWalkers_13 : decode cX4_readWalkers 13 = .ok (.if_icmp .gt 106, 3) := by decide +kernel
theorem dX4_readWalkers_16 : decode cX4_readWalkers 16 = .ok (.aload_n 0, 1) := by decide +kernel
theorem dX4_readWalkers_17 : decode cX4_readWalkers 17 = .ok (.getfield 19, 3) := by decide +kernel
theorem dX4_readWalkers_20 : decode cX4_readWalkers 20 = .ok (.ifCond .ne 99, 3) := by decide +kernel
theorem dX4_readWalkers_23 : decode cX4_readWalkers 23 = .ok (.aload_n 0, 1) := by decide +kernel
theorem dX4_readWalkers_24 : decode cX4_readWalkers 24 = .ok (.getfield 83, 3) := by decide +kernel
theorem dX4_readWalkers_27 : decode cX4_readWalkers 27 = .ok (.iconst (-1), 1) := by decide +kernel
theorem dX4_readWalkers_28 : decode cX4_readWalkers 28 = .ok (.if_icmp .eq 91, 3) := by decide +kernel
theorem dX4_readWalkers_31 : decode cX4_readWalkers 31 = .ok (.aload_n 0, 1) := by decide +kernel
theorem dX4_readWalkers_32 : decode cX4_readWalkers 32 = .ok (.iload_n 2, 1) := by decide +kernel
theorem dX4_readWalkers_33 : decode cX4_readWalkers 33 = .ok (.bipush 6, 2) := by decide +kernel
theorem dX4_readWalkers_35 : decode cX4_readWalkers 35 = .ok (.if_icmp .ge 7, 3) := by decide +kernel
theorem dX4_readWalkers_38 : decode cX4_readWalkers 38 = .ok (.iconst 1, 1) := by decide +kernel
theorem dX4_readWalkers_39 : decode cX4_readWalkers 39 = .ok (.goto 4, 3) := by decide +kernel
theorem dX4_readWalkers_42 : decode cX4_readWalkers 42 = .ok (.iconst 0, 1) := by decide +kernel
theorem dX4_readWalkers_43 : decode cX4_readWalkers 43 = .ok (.invokevirtual 86, 3) := by decide +kernel
theorem dX4_readWalkers_46 : decode cX4_readWalkers 46 = .ok (.istore_n 3, 1) := by decide +kernel
theorem dX4_readWalkers_47 : decode cX4_readWalkers 47 = .ok (.aload_n 0, 1) := by decide +kernel
theorem dX4_readWalkers_48 : decode cX4_readWalkers 48 = .ok (.iconst 1, 1) := by decide +kernel
theorem dX4_readWalkers_49 : decode cX4_readWalkers 49 = .ok (.bipush 20, 2) := by decide +kernel
theorem dX4_readWalkers_51 : decode cX4_readWalkers 51 = .ok (.iconst 1, 1) := by decide +kernel
theorem dX4_readWalkers_52 : decode cX4_readWalkers 52 = .ok (.invokevirtual 51, 3) := by decide +kernel
theorem dX4_readWalkers_55 : decode cX4_readWalkers 55 = .ok (.istore 4, 2) := by decide +kernel
theorem dX4_readWalkers_57 : decode cX4_readWalkers 57 = .ok (.aload_n 0, 1) := by decide +kernel
theorem dX4_readWalkers_58 : decode cX4_readWalkers 58 = .ok (.bipush 44, 2) := by decide +kernel
theorem dX4_readWalkers_60 : decode cX4_readWalkers 60 = .ok (.invokevirtual 47, 3) := by decide +kernel
theorem dX4_readWalkers_63 : decode cX4_readWalkers 63 = .ok (.aload_n 0, 1) := by decide +kernel
theorem dX4_readWalkers_64 : decode cX4_readWalkers 64 = .ok (.iconst 0, 1) := by decide +kernel
theorem dX4_readWalkers_65 : decode cX4_readWalkers 65 = .ok (.bipush 9, 2) := by decide +kernel
theorem dX4_readWalkers_67 : decode cX4_readWalkers 67 = .ok (.iconst 1, 1) := by decide +kernel
theorem dX4_readWalkers_68 : decode cX4_readWalkers 68 = .ok (.invokevirtual 51, 3) := by decide +kernel
theorem dX4_readWalkers_71 : decode cX4_readWalkers 71 = .ok (.istore 5, 2) := by decide +kernel
theorem dX4_readWalkers_73 : decode cX4_readWalkers 73 = .ok (.aload_n 0, 1) := by decide +kernel
theorem dX4_readWalkers_74 : decode cX4_readWalkers 74 = .ok (.bipush 59, 2) := by decide +kernel
theorem dX4_readWalkers_76 : decode cX4_readWalkers 76 = .ok (.invokevirtual 47, 3) := by decide +kernel
theorem dX4_readWalkers_79 : decode cX4_readWalkers 79 = .ok (.aload_n 0, 1) := by decide +kernel
theorem dX4_readWalkers_80 : decode cX4_readWalkers 80 = .ok (.getfield 19, 3) := by decide +kernel
theorem dX4_readWalkers_83 : decode cX4_readWalkers 83 = .ok (.ifCond .ne 30, 3) := by decide +kernel
theorem dX4_readWalkers_86 : decode cX4_readWalkers 86 = .ok (.aload_n 1, 1) := by decide +kernel
theorem dX4_readWalkers_87 : decode cX4_readWalkers 87 = .ok (.getfield 74, 3) := by decide +kernel
theorem dX4_readWalkers_90 : decode cX4_readWalkers 90 = .ok (.getfield 90, 3) := by decide +kernel
theorem dX4_readWalkers_93 : decode cX4_readWalkers 93 = .ok (.iload_n 2, 1) := by decide +kernel
theorem dX4_readWalkers_94 : decode cX4_readWalkers 94 = .ok (.aaload, 1) := by decide +kernel
theorem dX4_readWalkers_95 : decode cX4_readWalkers 95 = .ok (.iload_n 3, 1) := by decide +kernel
theorem dX4_readWalkers_96 : decode cX4_readWalkers 96 = .ok (.iload 4, 2) := by decide +kernel
theorem dX4_readWalkers_98 : decode cX4_readWalkers 98 = .ok (.iload 5, 2) := by decide +kernel
theorem dX4_readWalkers_100 : decode cX4_readWalkers 100 = .ok (.invokevirtual 94, 3) := by decide +kernel
theorem dX4_readWalkers_103 : decode cX4_readWalkers 103 = .ok (.aload_n 1, 1) := by decide +kernel
theorem dX4_readWalkers_104 : decode cX4_readWalkers 104 = .ok (.getfield 74, 3) := by decide +kernel
theorem dX4_readWalkers_107 : decode cX4_readWalkers 107 = .ok (.iload_n 2, 1) := by decide +kernel
theorem dX4_readWalkers_108 : decode cX4_readWalkers 108 = .ok (.iconst 1, 1) := by decide +kernel
theorem dX4_readWalkers_109 : decode cX4_readWalkers 109 = .ok (.iadd, 1) := by decide +kernel
theorem dX4_readWalkers_110 : decode cX4_readWalkers 110 = .ok (.putfield 78, 3) := by decide +kernel
theorem dX4_readWalkers_113 : decode cX4_readWalkers 113 = .ok (.iinc 2 1, 3) := by decide +kernel
theorem dX4_readWalkers_116 : decode cX4_readWalkers 116 = .ok (.goto (-106), 3) := by decide +kernel
theorem dX4_readWalkers_119 : decode cX4_readWalkers 119 = .ok (.return_, 1) := by decide +kernel
theorem dX4_expectSort_0 : decode cX4_expectSort 0 = .ok (.aload_n 0, 1) := by decide +kernel
theorem dX4_expectSort_1 : decode cX4_expectSort 1 = .ok (.getfield 83, 3) := by decide +kernel
theorem dX4_expectSort_4 : decode cX4_expectSort 4 = .ok (.invokestatic 100, 3) := by decide +kernel
theorem dX4_expectSort_7 : decode cX4_expectSort 7 = .ok (.istore_n 2, 1) := by decide +kernel
theorem dX4_expectSort_8 : decode cX4_expectSort 8 = .ok (.iload_n 2, 1) := by decide +kernel
theorem dX4_expectSort_9 : decode cX4_expectSort 9 = .ok (.ifCond .ne 11, 3) := by decide +kernel
theorem dX4_expectSort_12 : decode cX4_expectSort 12 = .ok (.aload_n 0, 1) := by decide +kernel
theorem dX4_expectSort_13 : decode cX4_expectSort 13 = .ok (.iconst 1, 1) := by decide +kernel
theorem dX4_expectSort_14 : decode cX4_expectSort 14 = .ok (.invokevirtual 104, 3) := by decide +kernel
theorem dX4_expectSort_17 : decode cX4_expectSort 17 = .ok (.goto 19, 3) := by decide +kernel
theorem dX4_expectSort_20 : decode cX4_expectSort 20 = .ok (.iload_n 1, 1) := by decide +kernel
theorem dX4_expectSort_21 : decode cX4_expectSort 21 = .ok (.ifCond .ne 11, 3) := by decide +kernel
theorem dX4_expectSort_24 : decode cX4_expectSort 24 = .ok (.aload_n 0, 1) := by decide +kernel
theorem dX4_expectSort_25 : decode cX4_expectSort 25 = .ok (.iconst 3, 1) := by decide +kernel
theorem dX4_expectSort_26 : decode cX4_expectSort 26 = .ok (.invokevirtual 104, 3) := by decide +kernel
theorem dX4_expectSort_29 : decode cX4_expectSort 29 = .ok (.goto 7, 3) := by decide +kernel
theorem dX4_expectSort_32 : decode cX4_expectSort 32 = .ok (.aload_n 0, 1) := by decide +kernel
theorem dX4_expectSort_33 : decode cX4_expectSort 33 = .ok (.invokevirtual 25, 3) := by decide +kernel
theorem dX4_expectSort_36 : decode cX4_expectSort 36 = .ok (.iload_n 2, 1) := by decide +kernel
theorem dX4_expectSort_37 : decode cX4_expectSort 37 = .ok (.ireturn, 1) := by decide +kernel
theorem dX4_kindOf_0 : decode cX4_kindOf 0 = .ok (.iload_n 0, 1) := by decide +kernel
theorem dX4_kindOf_1 : decode cX4_kindOf 1 = .ok (.tableswitch 57 108 115 #[55, 57, 57, 53, 51, 49, 57, 47], 47) := by decide +kernel
theorem dX4_kindOf_48 : decode cX4_kindOf 48 = .ok (.iconst 1, 1) := by decide +kernel
theorem dX4_kindOf_49 : decode cX4_kindOf 49 = .ok (.ireturn, 1) := by decide +kernel
theorem dX4_kindOf_50 : decode cX4_kindOf 50 = .ok (.iconst 2, 1) := by decide +kernel
theorem dX4_kindOf_51 : decode cX4_kindOf 51 = .ok (.ireturn, 1) := by decide +kernel
theorem dX4_kindOf_52 : decode cX4_kindOf 52 = .ok (.iconst 3, 1) := by decide +kernel
theorem dX4_kindOf_53 : decode cX4_kindOf 53 = .ok (.ireturn, 1) := by decide +kernel
theorem dX4_kindOf_54 : decode cX4_kindOf 54 = .ok (.iconst 4, 1) := by decide +kernel
theorem dX4_kindOf_55 : decode cX4_kindOf 55 = .ok (.ireturn, 1) := by decide +kernel
theorem dX4_kindOf_56 : decode cX4_kindOf 56 = .ok (.iconst 5, 1) := by decide +kernel
theorem dX4_kindOf_57 : decode cX4_kindOf 57 = .ok (.ireturn, 1) := by decide +kernel
theorem dX4_kindOf_58 : decode cX4_kindOf 58 = .ok (.iconst 0, 1) := by decide +kernel
theorem dX4_kindOf_59 : decode cX4_kindOf 59 = .ok (.ireturn, 1) := by decide +kernel
theorem dX4_expectNumber_0 : decode cX4_expectNumber 0 = .ok (.aload_n 0, 1) := by decide +kernel
theorem dX4_expectNumber_1 : decode cX4_expectNumber 1 = .ok (.getfield 107, 3) := by decide +kernel
theorem dX4_expectNumber_4 : decode cX4_expectNumber 4 = .ok (.istore 4, 2) := by decide +kernel
theorem dX4_expectNumber_6 : decode cX4_expectNumber 6 = .ok (.aload_n 0, 1) := by decide +kernel
theorem dX4_expectNumber_7 : decode cX4_expectNumber 7 = .ok (.getfield 83, 3) := by decide +kernel
theorem dX4_expectNumber_10 : decode cX4_expectNumber 10 = .ok (.bipush (-3), 2) := by decide +kernel
theorem dX4_expectNumber_12 : decode cX4_expectNumber 12 = .ok (.if_icmp .eq 11, 3) := by decide +kernel
theorem dX4_expectNumber_15 : decode cX4_expectNumber 15 = .ok (.aload_n 0, 1) := by decide +kernel
theorem dX4_expectNumber_16 : decode cX4_expectNumber 16 = .ok (.iconst 1, 1) := by decide +kernel
theorem dX4_expectNumber_17 : decode cX4_expectNumber 17 = .ok (.invokevirtual 104, 3) := by decide +kernel
theorem dX4_expectNumber_20 : decode cX4_expectNumber 20 = .ok (.goto 39, 3) := by decide +kernel
theorem dX4_expectNumber_23 : decode cX4_expectNumber 23 = .ok (.iload 4, 2) := by decide +kernel
theorem dX4_expectNumber_25 : decode cX4_expectNumber 25 = .ok (.iload_n 1, 1) := by decide +kernel
theorem dX4_expectNumber_26 : decode cX4_expectNumber 26 = .ok (.if_icmp .lt 9, 3) := by decide +kernel
theorem dX4_expectNumber_29 : decode cX4_expectNumber 29 = .ok (.iload 4, 2) := by decide +kernel
theorem dX4_expectNumber_31 : decode cX4_expectNumber 31 = .ok (.iload_n 2, 1) := by decide +kernel
theorem dX4_expectNumber_32 : decode cX4_expectNumber 32 = .ok (.if_icmp .le 11, 3) := by decide +kernel
theorem dX4_expectNumber_35 : decode cX4_expectNumber 35 = .ok (.aload_n 0, 1) := by decide +kernel
theorem dX4_expectNumber_36 : decode cX4_expectNumber 36 = .ok (.iconst 2, 1) := by decide +kernel
theorem dX4_expectNumber_37 : decode cX4_expectNumber 37 = .ok (.invokevirtual 104, 3) := by decide +kernel
theorem dX4_expectNumber_40 : decode cX4_expectNumber 40 = .ok (.goto 19, 3) := by decide +kernel
theorem dX4_expectNumber_43 : decode cX4_expectNumber 43 = .ok (.iload_n 3, 1) := by decide +kernel
theorem dX4_expectNumber_44 : decode cX4_expectNumber 44 = .ok (.ifCond .ne 11, 3) := by decide +kernel
theorem dX4_expectNumber_47 : decode cX4_expectNumber 47 = .ok (.aload_n 0, 1) := by decide +kernel
theorem dX4_expectNumber_48 : decode cX4_expectNumber 48 = .ok (.iconst 3, 1) := by decide +kernel
theorem dX4_expectNumber_49 : decode cX4_expectNumber 49 = .ok (.invokevirtual 104, 3) := by decide +kernel
theorem dX4_expectNumber_52 : decode cX4_expectNumber 52 = .ok (.goto 7, 3) := by decide +kernel
theorem dX4_expectNumber_55 : decode cX4_expectNumber 55 = .ok (.aload_n 0, 1) := by decide +kernel
theorem dX4_expectNumber_56 : decode cX4_expectNumber 56 = .ok (.invokevirtual 25, 3) := by decide +kernel
theorem dX4_expectNumber_59 : decode cX4_expectNumber 59 = .ok (.iload 4, 2) := by decide +kernel
theorem dX4_expectNumber_61 : decode cX4_expectNumber 61 = .ok (.ireturn, 1) := by decide +kernel
theorem dX4_expect_0 : decode cX4_expect 0 = .ok (.aload_n 0, 1) := by decide +kernel
theorem dX4_expect_1 : decode cX4_expect 1 = .ok (.getfield 83, 3) := by decide +kernel
theorem dX4_expect_4 : decode cX4_expect 4 = .ok (.iload_n 1, 1) := by decide +kernel
theorem dX4_expect_5 : decode cX4_expect 5 = .ok (.if_icmp .ne 10, 3) := by decide +kernel
theorem dX4_expect_8 : decode cX4_expect 8 = .ok (.aload_n 0, 1) := by decide +kernel
theorem dX4_expect_9 : decode cX4_expect 9 = .ok (.invokevirtual 25, 3) := by decide +kernel
theorem dX4_expect_12 : decode cX4_expect 12 = .ok (.goto 8, 3) := by decide +kernel
theorem dX4_expect_15 : decode cX4_expect 15 = .ok (.aload_n 0, 1) := by decide +kernel
theorem dX4_expect_16 : decode cX4_expect 16 = .ok (.iconst 1, 1) := by decide +kernel
theorem dX4_expect_17 : decode cX4_expect 17 = .ok (.invokevirtual 104, 3) := by decide +kernel
theorem dX4_expect_20 : decode cX4_expect 20 = .ok (.return_, 1) := by decide +kernel
theorem dX4_accept_0 : decode cX4_accept 0 = .ok (.aload_n 0, 1) := by decide +kernel
theorem dX4_accept_1 : decode cX4_accept 1 = .ok (.getfield 19, 3) := by decide +kernel
theorem dX4_accept_4 : decode cX4_accept 4 = .ok (.ifCond .ne 11, 3) := by decide +kernel
theorem dX4_accept_7 : decode cX4_accept 7 = .ok (.aload_n 0, 1) := by decide +kernel
theorem dX4_accept_8 : decode cX4_accept 8 = .ok (.getfield 83, 3) := by decide +kernel
theorem dX4_accept_11 : decode cX4_accept 11 = .ok (.iload_n 1, 1) := by decide +kernel
theorem dX4_accept_12 : decode cX4_accept 12 = .ok (.if_icmp .eq 5, 3) := by decide +kernel
theorem dX4_accept_15 : decode cX4_accept 15 = .ok (.iconst 0, 1) := by decide +kernel
theorem dX4_accept_16 : decode cX4_accept 16 = .ok (.ireturn, 1) := by decide +kernel
theorem dX4_accept_17 : decode cX4_accept 17 = .ok (.aload_n 0, 1) := by decide +kernel
theorem dX4_accept_18 : decode cX4_accept 18 = .ok (.invokevirtual 25, 3) := by decide +kernel
theorem dX4_accept_21 : decode cX4_accept 21 = .ok (.iconst 1, 1) := by decide +kernel
theorem dX4_accept_22 : decode cX4_accept 22 = .ok (.ireturn, 1) := by decide +kernel
theorem dX4_blame_0 : decode cX4_blame 0 = .ok (.aload_n 0, 1) := by decide +kernel
theorem dX4_blame_1 : decode cX4_blame 1 = .ok (.getfield 19, 3) := by decide +kernel
theorem dX4_blame_4 : decode cX4_blame 4 = .ok (.ifCond .ne 16, 3) := by decide +kernel
theorem dX4_blame_7 : decode cX4_blame 7 = .ok (.aload_n 0, 1) := by decide +kernel
theorem dX4_blame_8 : decode cX4_blame 8 = .ok (.iload_n 1, 1) := by decide +kernel
theorem dX4_blame_9 : decode cX4_blame 9 = .ok (.putfield 19, 3) := by decide +kernel
theorem dX4_blame_12 : decode cX4_blame 12 = .ok (.aload_n 0, 1) := by decide +kernel
theorem dX4_blame_13 : decode cX4_blame 13 = .ok (.aload_n 0, 1) := by decide +kernel
theorem dX4_blame_14 : decode cX4_blame 14 = .ok (.getfield 110, 3) := by decide +kernel
theorem dX4_blame_17 : decode cX4_blame 17 = .ok (.putfield 113, 3) := by decide +kernel
theorem dX4_blame_20 : decode cX4_blame 20 = .ok (.return_, 1) := by decide +kernel
theorem dX4_advance_0 : decode cX4_advance 0 = .ok (.aload_n 0, 1) := by decide +kernel
theorem dX4_advance_1 : decode cX4_advance 1 = .ok (.getfield 19, 3) := by decide +kernel
theorem dX4_advance_4 : decode cX4_advance 4 = .ok (.ifCond .eq 4, 3) := by decide +kernel
theorem dX4_advance_7 : decode cX4_advance 7 = .ok (.return_, 1) := by decide +kernel
theorem dX4_advance_8 : decode cX4_advance 8 = .ok (.aload_n 0, 1) := by decide +kernel
theorem dX4_advance_9 : decode cX4_advance 9 = .ok (.aload_n 0, 1) := by decide +kernel
theorem dX4_advance_10 : decode cX4_advance 10 = .ok (.getfield 22, 3) := by decide +kernel
theorem dX4_advance_13 : decode cX4_advance 13 = .ok (.putfield 110, 3) := by decide +kernel
theorem dX4_advance_16 : decode cX4_advance 16 = .ok (.aload_n 0, 1) := by decide +kernel
theorem dX4_advance_17 : decode cX4_advance 17 = .ok (.getfield 22, 3) := by decide +kernel
theorem dX4_advance_20 : decode cX4_advance 20 = .ok (.aload_n 0, 1) := by decide +kernel
theorem dX4_advance_21 : decode cX4_advance 21 = .ok (.getfield 15, 3) := by decide +kernel
theorem dX4_advance_24 : decode cX4_advance 24 = .ok (.if_icmp .lt 9, 3) := by decide +kernel
theorem dX4_advance_27 : decode cX4_advance 27 = .ok (.aload_n 0, 1) := by decide +kernel
theorem dX4_advance_28 : decode cX4_advance 28 = .ok (.iconst (-1), 1) := by decide +kernel
theorem dX4_advance_29 : decode cX4_advance 29 = .ok (.putfield 83, 3) := by decide +kernel
theorem dX4_advance_32 : decode cX4_advance 32 = .ok (.return_, 1) := by decide +kernel
theorem dX4_advance_33 : decode cX4_advance 33 = .ok (.aload_n 0, 1) := by decide +kernel
theorem dX4_advance_34 : decode cX4_advance 34 = .ok (.getfield 11, 3) := by decide +kernel
theorem dX4_advance_37 : decode cX4_advance 37 = .ok (.aload_n 0, 1) := by decide +kernel
theorem dX4_advance_38 : decode cX4_advance 38 = .ok (.getfield 22, 3) := by decide +kernel
theorem dX4_advance_41 : decode cX4_advance 41 = .ok (.iaload, 1) := by decide +kernel
theorem dX4_advance_42 : decode cX4_advance 42 = .ok (.istore_n 1, 1) := by decide +kernel
theorem dX4_advance_43 : decode cX4_advance 43 = .ok (.iload_n 1, 1) := by decide +kernel
theorem dX4_advance_44 : decode cX4_advance 44 = .ok (.invokestatic 116, 3) := by decide +kernel
theorem dX4_advance_47 : decode cX4_advance 47 = .ok (.ifCond .eq 8, 3) := by decide +kernel
theorem dX4_advance_50 : decode cX4_advance 50 = .ok (.aload_n 0, 1) := by decide +kernel
theorem dX4_advance_51 : decode cX4_advance 51 = .ok (.invokevirtual 119, 3) := by decide +kernel
theorem dX4_advance_54 : decode cX4_advance 54 = .ok (.return_, 1) := by decide +kernel
theorem dX4_advance_55 : decode cX4_advance 55 = .ok (.aload_n 0, 1) := by decide +kernel
theorem dX4_advance_56 : decode cX4_advance 56 = .ok (.dup, 1) := by decide +kernel
theorem dX4_advance_57 : decode cX4_advance 57 = .ok (.getfield 22, 3) := by decide +kernel
theorem dX4_advance_60 : decode cX4_advance 60 = .ok (.iconst 1, 1) := by decide +kernel
theorem dX4_advance_61 : decode cX4_advance 61 = .ok (.iadd, 1) := by decide +kernel
theorem dX4_advance_62 : decode cX4_advance 62 = .ok (.putfield 22, 3) := by decide +kernel
theorem dX4_advance_65 : decode cX4_advance 65 = .ok (.iload_n 1, 1) := by decide +kernel
theorem dX4_advance_66 : decode cX4_advance 66 = .ok (.bipush 97, 2) := by decide +kernel
theorem dX4_advance_68 : decode cX4_advance 68 = .ok (.if_icmp .lt 9, 3) := by decide +kernel
theorem dX4_advance_71 : decode cX4_advance 71 = .ok (.iload_n 1, 1) := by decide +kernel
theorem dX4_advance_72 : decode cX4_advance 72 = .ok (.bipush 122, 2) := by decide +kernel
theorem dX4_advance_74 : decode cX4_advance 74 = .ok (.if_icmp .le 15, 3) := by decide +kernel
theorem dX4_advance_77 : decode cX4_advance 77 = .ok (.iload_n 1, 1) := by decide +kernel
theorem dX4_advance_78 : decode cX4_advance 78 = .ok (.bipush 44, 2) := by decide +kernel
theorem dX4_advance_80 : decode cX4_advance 80 = .ok (.if_icmp .eq 9, 3) := by decide +kernel
theorem dX4_advance_83 : decode cX4_advance 83 = .ok (.iload_n 1, 1) := by decide +kernel
theorem dX4_advance_84 : decode cX4_advance 84 = .ok (.bipush 59, 2) := by decide +kernel
theorem dX4_advance_86 : decode cX4_advance 86 = .ok (.if_icmp .ne 7, 3) := by decide +kernel
theorem dX4_advance_89 : decode cX4_advance 89 = .ok (.iconst 1, 1) := by decide +kernel
theorem dX4_advance_90 : decode cX4_advance 90 = .ok (.goto 4, 3) := by decide +kernel
theorem dX4_advance_93 : decode cX4_advance 93 = .ok (.iconst 0, 1) := by decide +kernel
theorem dX4_advance_94 : decode cX4_advance 94 = .ok (.istore_n 2, 1) := by decide +kernel
theorem dX4_advance_95 : decode cX4_advance 95 = .ok (.aload_n 0, 1) := by decide +kernel
theorem dX4_advance_96 : decode cX4_advance 96 = .ok (.iload_n 2, 1) := by decide +kernel
theorem dX4_advance_97 : decode cX4_advance 97 = .ok (.ifCond .eq 7, 3) := by decide +kernel
theorem dX4_advance_100 : decode cX4_advance 100 = .ok (.iload_n 1, 1) := by decide +kernel
theorem dX4_advance_101 : decode cX4_advance 101 = .ok (.goto 5, 3) := by decide +kernel
theorem dX4_advance_104 : decode cX4_advance 104 = .ok (.bipush (-2), 2) := by decide +kernel
theorem dX4_advance_106 : decode cX4_advance 106 = .ok (.putfield 83, 3) := by decide +kernel
theorem dX4_advance_109 : decode cX4_advance 109 = .ok (.return_, 1) := by decide +kernel
theorem dX4_takeFigures_0 : decode cX4_takeFigures 0 = .ok (.aload_n 0, 1) := by decide +kernel
theorem dX4_takeFigures_1 : decode cX4_takeFigures 1 = .ok (.iconst 0, 1) := by decide +kernel
theorem dX4_takeFigures_2 : decode cX4_takeFigures 2 = .ok (.putfield 107, 3) := by decide +kernel
theorem dX4_takeFigures_5 : decode cX4_takeFigures 5 = .ok (.aload_n 0, 1) := by decide +kernel
theorem dX4_takeFigures_6 : decode cX4_takeFigures 6 = .ok (.getfield 22, 3) := by decide +kernel
theorem dX4_takeFigures_9 : decode cX4_takeFigures 9 = .ok (.aload_n 0, 1) := by decide +kernel
theorem dX4_takeFigures_10 : decode cX4_takeFigures 10 = .ok (.getfield 15, 3) := by decide +kernel
theorem dX4_takeFigures_13 : decode cX4_takeFigures 13 = .ok (.if_icmp .ge 55, 3) := by decide +kernel
theorem dX4_takeFigures_16 : decode cX4_takeFigures 16 = .ok (.aload_n 0, 1) := by decide +kernel
theorem dX4_takeFigures_17 : decode cX4_takeFigures 17 = .ok (.getfield 11, 3) := by decide +kernel
theorem dX4_takeFigures_20 : decode cX4_takeFigures 20 = .ok (.aload_n 0, 1) := by decide +kernel
theorem dX4_takeFigures_21 : decode cX4_takeFigures 21 = .ok (.getfield 22, 3) := by decide +kernel
theorem dX4_takeFigures_24 : decode cX4_takeFigures 24 = .ok (.iaload, 1) := by decide +kernel
theorem dX4_takeFigures_25 : decode cX4_takeFigures 25 = .ok (.invokestatic 116, 3) := by decide +kernel
theorem dX4_takeFigures_28 : decode cX4_takeFigures 28 = .ok (.ifCond .eq 40, 3) := by decide +kernel
theorem dX4_takeFigures_31 : decode cX4_takeFigures 31 = .ok (.aload_n 0, 1) := by decide +kernel
theorem dX4_takeFigures_32 : decode cX4_takeFigures 32 = .ok (.bipush 10, 2) := by decide +kernel
theorem dX4_takeFigures_34 : decode cX4_takeFigures 34 = .ok (.aload_n 0, 1) := by decide +kernel
theorem dX4_takeFigures_35 : decode cX4_takeFigures 35 = .ok (.getfield 107, 3) := by decide +kernel
theorem dX4_takeFigures_38 : decode cX4_takeFigures 38 = .ok (.imul, 1) := by decide +kernel
theorem dX4_takeFigures_39 : decode cX4_takeFigures 39 = .ok (.aload_n 0, 1) := by decide +kernel
theorem dX4_takeFigures_40 : decode cX4_takeFigures 40 = .ok (.getfield 11, 3) := by decide +kernel
theorem dX4_takeFigures_43 : decode cX4_takeFigures 43 = .ok (.aload_n 0, 1) := by decide +kernel
theorem dX4_takeFigures_44 : decode cX4_takeFigures 44 = .ok (.getfield 22, 3) := by decide +kernel
theorem dX4_takeFigures_47 : decode cX4_takeFigures 47 = .ok (.iaload, 1) := by decide +kernel
theorem dX4_takeFigures_48 : decode cX4_takeFigures 48 = .ok (.iadd, 1) := by decide +kernel
theorem dX4_takeFigures_49 : decode cX4_takeFigures 49 = .ok (.bipush 48, 2) := by decide +kernel
theorem dX4_takeFigures_51 : decode cX4_takeFigures 51 = .ok (.isub, 1) := by decide +kernel
theorem dX4_takeFigures_52 : decode cX4_takeFigures 52 = .ok (.putfield 107, 3) := by decide +kernel
theorem dX4_takeFigures_55 : decode cX4_takeFigures 55 = .ok (.aload_n 0, 1) := by decide +kernel
theorem dX4_takeFigures_56 : decode cX4_takeFigures 56 = .ok (.dup, 1) := by decide +kernel
theorem dX4_takeFigures_57 : decode cX4_takeFigures 57 = .ok (.getfield 22, 3) := by decide +kernel
theorem dX4_takeFigures_60 : decode cX4_takeFigures 60 = .ok (.iconst 1, 1) := by decide +kernel
theorem dX4_takeFigures_61 : decode cX4_takeFigures 61 = .ok (.iadd, 1) := by decide +kernel
theorem dX4_takeFigures_62 : decode cX4_takeFigures 62 = .ok (.putfield 22, 3) := by decide +kernel
theorem dX4_takeFigures_65 : decode cX4_takeFigures 65 = .ok (.goto (-60), 3) := by decide +kernel
theorem dX4_takeFigures_68 : decode cX4_takeFigures 68 = .ok (.aload_n 0, 1) := by decide +kernel
theorem dX4_takeFigures_69 : decode cX4_takeFigures 69 = .ok (.aload_n 0, 1) := by decide +kernel
theorem dX4_takeFigures_70 : decode cX4_takeFigures 70 = .ok (.getfield 22, 3) := by decide +kernel
theorem dX4_takeFigures_73 : decode cX4_takeFigures 73 = .ok (.aload_n 0, 1) := by decide +kernel
theorem dX4_takeFigures_74 : decode cX4_takeFigures 74 = .ok (.getfield 110, 3) := by decide +kernel
theorem dX4_takeFigures_77 : decode cX4_takeFigures 77 = .ok (.isub, 1) := by decide +kernel
theorem dX4_takeFigures_78 : decode cX4_takeFigures 78 = .ok (.iconst 3, 1) := by decide +kernel
theorem dX4_takeFigures_79 : decode cX4_takeFigures 79 = .ok (.if_icmp .gt 8, 3) := by decide +kernel
theorem dX4_takeFigures_82 : decode cX4_takeFigures 82 = .ok (.bipush (-3), 2) := by decide +kernel
theorem dX4_takeFigures_84 : decode cX4_takeFigures 84 = .ok (.goto 5, 3) := by decide +kernel
theorem dX4_takeFigures_87 : decode cX4_takeFigures 87 = .ok (.bipush (-2), 2) := by decide +kernel
theorem dX4_takeFigures_89 : decode cX4_takeFigures 89 = .ok (.putfield 83, 3) := by decide +kernel
theorem dX4_takeFigures_92 : decode cX4_takeFigures 92 = .ok (.return_, 1) := by decide +kernel
theorem dX4_isFigure_0 : decode cX4_isFigure 0 = .ok (.iload_n 0, 1) := by decide +kernel
theorem dX4_isFigure_1 : decode cX4_isFigure 1 = .ok (.bipush 48, 2) := by decide +kernel
theorem dX4_isFigure_3 : decode cX4_isFigure 3 = .ok (.if_icmp .lt 13, 3) := by decide +kernel
theorem dX4_isFigure_6 : decode cX4_isFigure 6 = .ok (.iload_n 0, 1) := by decide +kernel
theorem dX4_isFigure_7 : decode cX4_isFigure 7 = .ok (.bipush 57, 2) := by decide +kernel
theorem dX4_isFigure_9 : decode cX4_isFigure 9 = .ok (.if_icmp .gt 7, 3) := by decide +kernel
theorem dX4_isFigure_12 : decode cX4_isFigure 12 = .ok (.iconst 1, 1) := by decide +kernel
theorem dX4_isFigure_13 : decode cX4_isFigure 13 = .ok (.goto 4, 3) := by decide +kernel
theorem dX4_isFigure_16 : decode cX4_isFigure 16 = .ok (.iconst 0, 1) := by decide +kernel
theorem dX4_isFigure_17 : decode cX4_isFigure 17 = .ok (.ireturn, 1) := by decide +kernel
theorem dX5_init_0 : decode cX5_init 0 = .ok (.aload_n 0, 1) := by decide +kernel
theorem dX5_init_1 : decode cX5_init 1 = .ok (.invokespecial 3, 3) := by decide +kernel
theorem dX5_init_4 : decode cX5_init 4 = .ok (.aload_n 0, 1) := by decide +kernel
theorem dX5_init_5 : decode cX5_init 5 = .ok (.bipush 40, 2) := by decide +kernel
theorem dX5_init_7 : decode cX5_init 7 = .ok (.newarray .int, 2) := by decide +kernel
theorem dX5_init_9 : decode cX5_init 9 = .ok (.putfield 9, 3) := by decide +kernel
theorem dX5_init_12 : decode cX5_init 12 = .ok (.aload_n 0, 1) := by decide +kernel
theorem dX5_init_13 : decode cX5_init 13 = .ok (.iconst 1, 1) := by decide +kernel
theorem dX5_init_14 : decode cX5_init 14 = .ok (.putfield 15, 3) := by decide +kernel
theorem dX5_init_17 : decode cX5_init 17 = .ok (.return_, 1) := by decide +kernel
theorem dX5_make_0 : decode cX5_make 0 = .ok (.aload_n 0, 1) := by decide +kernel
theorem dX5_make_1 : decode cX5_make 1 = .ok (.iconst 0, 1) := by decide +kernel
theorem dX5_make_2 : decode cX5_make 2 = .ok (.putfield 15, 3) := by decide +kernel
theorem dX5_make_5 : decode cX5_make 5 = .ok (.aload_n 0, 1) := by decide +kernel
theorem dX5_make_6 : decode cX5_make 6 = .ok (.iload_n 1, 1) := by decide +kernel
theorem dX5_make_7 : decode cX5_make 7 = .ok (.putfield 19, 3) := by decide +kernel
theorem dX5_make_10 : decode cX5_make 10 = .ok (.aload_n 0, 1) := by decide +kernel
theorem dX5_make_11 : decode cX5_make 11 = .ok (.iload_n 2, 1) := by decide +kernel
theorem dX5_make_12 : decode cX5_make 12 = .ok (.putfield 23, 3) := by decide +kernel
theorem dX5_make_15 : decode cX5_make 15 = .ok (.iconst 0, 1) := by decide +kernel
theorem dX5_make_16 : decode cX5_make 16 = .ok (.istore_n 3, 1) := by decide +kernel
theorem dX5_make_17 : decode cX5_make 17 = .ok (.iload_n 3, 1) := by decide +kernel
theorem dX5_make_18 : decode cX5_make 18 = .ok (.aload_n 0, 1) := by decide +kernel
theorem dX5_make_19 : decode cX5_make 19 = .ok (.getfield 9, 3) := by decide +kernel
theorem dX5_make_22 : decode cX5_make 22 = .ok (.arraylength, 1) := by decide +kernel
theorem dX5_make_23 : decode cX5_make 23 = .ok (.if_icmp .ge 16, 3) := by decide +kernel
theorem dX5_make_26 : decode cX5_make 26 = .ok (.aload_n 0, 1) := by decide +kernel
theorem dX5_make_27 : decode cX5_make 27 = .ok (.getfield 9, 3) := by decide +kernel
theorem dX5_make_30 : decode cX5_make 30 = .ok (.iload_n 3, 1) := by decide +kernel
theorem dX5_make_31 : decode cX5_make 31 = .ok (.iconst 0, 1) := by decide +kernel
theorem dX5_make_32 : decode cX5_make 32 = .ok (.iastore, 1) := by decide +kernel
theorem dX5_make_33 : decode cX5_make 33 = .ok (.iinc 3 1, 3) := by decide +kernel
theorem dX5_make_36 : decode cX5_make 36 = .ok (.goto (-19), 3) := by decide +kernel
theorem dX5_make_39 : decode cX5_make 39 = .ok (.return_, 1) := by decide +kernel
theorem dX5_put_0 : decode cX5_put 0 = .ok (.aload_n 0, 1) := by decide +kernel
theorem dX5_put_1 : decode cX5_put 1 = .ok (.getfield 9, 3) := by decide +kernel
theorem dX5_put_4 : decode cX5_put 4 = .ok (.iload_n 1, 1) := by decide +kernel
theorem dX5_put_5 : decode cX5_put 5 = .ok (.aload_n 0, 1) := by decide +kernel
theorem dX5_put_6 : decode cX5_put 6 = .ok (.iload_n 2, 1) := by decide +kernel
theorem dX5_put_7 : decode cX5_put 7 = .ok (.invokevirtual 26, 3) := by decide +kernel
theorem dX5_put_10 : decode cX5_put 10 = .ok (.iastore, 1) := by decide +kernel
theorem dX5_put_11 : decode cX5_put 11 = .ok (.aload_n 0, 1) := by decide +kernel
theorem dX5_put_12 : decode cX5_put 12 = .ok (.getfield 9, 3) := by decide +kernel
theorem dX5_put_15 : decode cX5_put 15 = .ok (.iload_n 1, 1) := by decide +kernel
theorem dX5_put_16 : decode cX5_put 16 = .ok (.iaload, 1) := by decide +kernel
theorem dX5_put_17 : decode cX5_put 17 = .ok (.ireturn, 1) := by decide +kernel
theorem dX5_cut_0 : decode cX5_cut 0 = .ok (.aload_n 0, 1) := by decide +kernel
theorem dX5_cut_1 : decode cX5_cut 1 = .ok (.getfield 19, 3) := by decide +kernel
theorem dX5_cut_4 : decode cX5_cut 4 = .ok (.ifCond .ne 6, 3) := by decide +kernel
theorem dX5_cut_7 : decode cX5_cut 7 = .ok (.iload_n 1, 1) := by decide +kernel
theorem dX5_cut_8 : decode cX5_cut 8 = .ok (.i2b, 1) := by decide +kernel
theorem dX5_cut_9 : decode cX5_cut 9 = .ok (.ireturn, 1) := by decide +kernel
theorem dX5_cut_10 : decode cX5_cut 10 = .ok (.aload_n 0, 1) := by decide +kernel
theorem dX5_cut_11 : decode cX5_cut 11 = .ok (.getfield 19, 3) := by decide +kernel
theorem dX5_cut_14 : decode cX5_cut 14 = .ok (.iconst 1, 1) := by decide +kernel
theorem dX5_cut_15 : decode cX5_cut 15 = .ok (.if_icmp .ne 8, 3) := by decide +kernel
theorem dX5_cut_18 : decode cX5_cut 18 = .ok (.iload_n 1, 1) := by decide +kernel
theorem dX5_cut_19 : decode cX5_cut 19 = .ok (.i2s, 1) := by decide +kernel
theorem dX5_cut_20 : decode cX5_cut 20 = .ok (.goto 4, 3) := by decide +kernel
theorem dX5_cut_23 : decode cX5_cut 23 = .ok (.iload_n 1, 1) := by decide +kernel
theorem dX5_cut_24 : decode cX5_cut 24 = .ok (.ireturn, 1) := by decide +kernel
theorem dX5_holds_0 : decode cX5_holds 0 = .ok (.iload_n 1, 1) := by decide +kernel
theorem dX5_holds_1 : decode cX5_holds 1 = .ok (.ifCond .lt 29, 3) := by decide +kernel
theorem dX5_holds_4 : decode cX5_holds 4 = .ok (.iload_n 2, 1) := by decide +kernel
theorem dX5_holds_5 : decode cX5_holds 5 = .ok (.ifCond .lt 25, 3) := by decide +kernel
theorem dX5_holds_8 : decode cX5_holds 8 = .ok (.iload_n 1, 1) := by decide +kernel
theorem dX5_holds_9 : decode cX5_holds 9 = .ok (.aload_n 0, 1) := by decide +kernel
theorem dX5_holds_10 : decode cX5_holds 10 = .ok (.getfield 23, 3) := by decide +kernel
theorem dX5_holds_13 : decode cX5_holds 13 = .ok (.if_icmp .gt 17, 3) := by decide +kernel
theorem dX5_holds_16 : decode cX5_holds 16 = .ok (.iload_n 2, 1) := by decide +kernel
theorem dX5_holds_17 : decode cX5_holds 17 = .ok (.aload_n 0, 1) := by decide +kernel
theorem dX5_holds_18 : decode cX5_holds 18 = .ok (.getfield 23, 3) := by decide +kernel
theorem dX5_holds_21 : decode cX5_holds 21 = .ok (.iload_n 1, 1) := by decide +kernel
theorem dX5_holds_22 : decode cX5_holds 22 = .ok (.isub, 1) := by decide +kernel
theorem dX5_holds_23 : decode cX5_holds 23 = .ok (.if_icmp .gt 7, 3) := by decide +kernel
theorem dX5_holds_26 : decode cX5_holds 26 = .ok (.iconst 1, 1) := by decide +kernel
theorem dX5_holds_27 : decode cX5_holds 27 = .ok (.goto 4, 3) := by decide +kernel
theorem dX5_holds_30 : decode cX5_holds 30 = .ok (.iconst 0, 1) := by decide +kernel
theorem dX5_holds_31 : decode cX5_holds 31 = .ok (.ireturn, 1) := by decide +kernel
theorem dX6_init_0 : decode cX6_init 0 = .ok (.aload_n 0, 1) := by decide +kernel
theorem dX6_init_1 : decode cX6_init 1 = .ok (.invokespecial 3, 3) := by decide +kernel
theorem dX6_init_4 : decode cX6_init 4 = .ok (.return_, 1) := by decide +kernel
theorem dX6_become_0 : decode cX6_become 0 = .ok (.aload_n 0, 1) := by decide +kernel
theorem dX6_become_1 : decode cX6_become 1 = .ok (.aload_n 1, 1) := by decide +kernel
theorem dX6_become_2 : decode cX6_become 2 = .ok (.getfield 9, 3) := by decide +kernel
theorem dX6_become_5 : decode cX6_become 5 = .ok (.putfield 9, 3) := by decide +kernel
theorem dX6_become_8 : decode cX6_become 8 = .ok (.aload_n 0, 1) := by decide +kernel
theorem dX6_become_9 : decode cX6_become 9 = .ok (.aload_n 1, 1) := by decide +kernel
theorem dX6_become_10 : decode cX6_become 10 = .ok (.getfield 15, 3) := by decide +kernel
theorem dX6_become_13 : decode cX6_become 13 = .ok (.putfield 15, 3) := by decide +kernel
theorem dX6_become_16 : decode cX6_become 16 = .ok (.aload_n 0, 1) := by decide +kernel
theorem dX6_become_17 : decode cX6_become 17 = .ok (.aload_n 1, 1) := by decide +kernel
theorem dX6_become_18 : decode cX6_become 18 = .ok (.getfield 18, 3) := by decide +kernel
theorem dX6_become_21 : decode cX6_become 21 = .ok (.putfield 18, 3) := by decide +kernel
theorem dX6_become_24 : decode cX6_become 24 = .ok (.aload_n 0, 1) := by decide +kernel
theorem dX6_become_25 : decode cX6_become 25 = .ok (.aload_n 1, 1) := by decide +kernel
theorem dX6_become_26 : decode cX6_become 26 = .ok (.getfield 21, 3) := by decide +kernel
theorem dX6_become_29 : decode cX6_become 29 = .ok (.putfield 21, 3) := by decide +kernel
theorem dX6_become_32 : decode cX6_become 32 = .ok (.aload_n 0, 1) := by decide +kernel
theorem dX6_become_33 : decode cX6_become 33 = .ok (.aload_n 1, 1) := by decide +kernel
theorem dX6_become_34 : decode cX6_become 34 = .ok (.getfield 24, 3) := by decide +kernel
theorem dX6_become_37 : decode cX6_become 37 = .ok (.putfield 24, 3) := by decide +kernel
theorem dX6_become_40 : decode cX6_become 40 = .ok (.aload_n 0, 1) := by decide +kernel
theorem dX6_become_41 : decode cX6_become 41 = .ok (.aload_n 1, 1) := by decide +kernel
theorem dX6_become_42 : decode cX6_become 42 = .ok (.getfield 27, 3) := by decide +kernel
theorem dX6_become_45 : decode cX6_become 45 = .ok (.putfield 27, 3) := by decide +kernel
theorem dX6_become_48 : decode cX6_become 48 = .ok (.aload_n 0, 1) := by decide +kernel
theorem dX6_become_49 : decode cX6_become 49 = .ok (.aload_n 1, 1) := by decide +kernel
theorem dX6_become_50 : decode cX6_become 50 = .ok (.getfield 30, 3) := by decide +kernel
theorem dX6_become_53 : decode cX6_become 53 = .ok (.putfield 30, 3) := by decide +kernel
theorem dX6_become_56 : decode cX6_become 56 = .ok (.return_, 1) := by decide +kernel
theorem dX6_begin_0 : decode cX6_begin 0 = .ok (.aload_n 0, 1) := by decide +kernel
theorem dX6_begin_1 : decode cX6_begin 1 = .ok (.iload_n 1, 1) := by decide +kernel
theorem dX6_begin_2 : decode cX6_begin 2 = .ok (.putfield 9, 3) := by decide +kernel
theorem dX6_begin_5 : decode cX6_begin 5 = .ok (.aload_n 0, 1) := by decide +kernel
theorem dX6_begin_6 : decode cX6_begin 6 = .ok (.iload_n 2, 1) := by decide +kernel
theorem dX6_begin_7 : decode cX6_begin 7 = .ok (.putfield 15, 3) := by decide +kernel
theorem dX6_begin_10 : decode cX6_begin 10 = .ok (.aload_n 0, 1) := by decide +kernel
theorem dX6_begin_11 : decode cX6_begin 11 = .ok (.iload_n 3, 1) := by decide +kernel
theorem dX6_begin_12 : decode cX6_begin 12 = .ok (.putfield 18, 3) := by decide +kernel
theorem dX6_begin_15 : decode cX6_begin 15 = .ok (.return_, 1) := by decide +kernel
theorem dX6_minutesFor_0 : decode cX6_minutesFor 0 = .ok (.aload_n 0, 1) := by decide +kernel
theorem dX6_minutesFor_1 : decode cX6_minutesFor 1 = .ok (.getfield 15, 3) := by decide +kernel
theorem dX6_minutesFor_4 : decode cX6_minutesFor 4 = .ok (.aload_n 0, 1) := by decide +kernel
theorem dX6_minutesFor_5 : decode cX6_minutesFor 5 = .ok (.getfield 21, 3) := by decide +kernel
theorem dX6_minutesFor_8 : decode cX6_minutesFor 8 = .ok (.iconst 2, 1) := by decide +kernel
theorem dX6_minutesFor_9 : decode cX6_minutesFor 9 = .ok (.aload_n 0, 1) := by decide +kernel
theorem dX6_minutesFor_10 : decode cX6_minutesFor 10 = .ok (.getfield 18, 3) := by decide +kernel
theorem dX6_minutesFor_13 : decode cX6_minutesFor 13 = .ok (.imul, 1) := by decide +kernel
theorem dX6_minutesFor_14 : decode cX6_minutesFor 14 = .ok (.iadd, 1) := by decide +kernel
theorem dX6_minutesFor_15 : decode cX6_minutesFor 15 = .ok (.bipush 8, 2) := by decide +kernel
theorem dX6_minutesFor_17 : decode cX6_minutesFor 17 = .ok (.idiv, 1) := by decide +kernel
theorem dX6_minutesFor_18 : decode cX6_minutesFor 18 = .ok (.iadd, 1) := by decide +kernel
theorem dX6_minutesFor_19 : decode cX6_minutesFor 19 = .ok (.istore_n 2, 1) := by decide +kernel
theorem dX6_minutesFor_20 : decode cX6_minutesFor 20 = .ok (.aload_n 0, 1) := by decide +kernel
theorem dX6_minutesFor_21 : decode cX6_minutesFor 21 = .ok (.getfield 9, 3) := by decide +kernel
theorem dX6_minutesFor_24 : decode cX6_minutesFor 24 = .ok (.iconst 2, 1) := by decide +kernel
theorem dX6_minutesFor_25 : decode cX6_minutesFor 25 = .ok (.if_icmp .ne 13, 3) := by decide +kernel
theorem dX6_minutesFor_28 : decode cX6_minutesFor 28 = .ok (.iload_n 1, 1) := by decide +kernel
theorem dX6_minutesFor_29 : decode cX6_minutesFor 29 = .ok (.iconst 1, 1) := by decide +kernel
theorem dX6_minutesFor_30 : decode cX6_minutesFor 30 = .ok (.iload_n 2, 1) := by decide +kernel
theorem dX6_minutesFor_31 : decode cX6_minutesFor 31 = .ok (.iconst 1, 1) := by decide +kernel
theorem dX6_minutesFor_32 : decode cX6_minutesFor 32 = .ok (.isub, 1) := by decide +kernel
theorem dX6_minutesFor_33 : decode cX6_minutesFor 33 = .ok (.invokestatic 33, 3) := by decide +kernel
theorem dX6_minutesFor_36 : decode cX6_minutesFor 36 = .ok (.imul, 1) := by decide +kernel
theorem dX6_minutesFor_37 : decode cX6_minutesFor 37 = .ok (.ireturn, 1) := by decide +kernel
theorem dX6_minutesFor_38 : decode cX6_minutesFor 38 = .ok (.aload_n 0, 1) := by decide +kernel
theorem dX6_minutesFor_39 : decode cX6_minutesFor 39 = .ok (.getfield 9, 3) := by decide +kernel
theorem dX6_minutesFor_42 : decode cX6_minutesFor 42 = .ok (.iconst 4, 1) := by decide +kernel
theorem dX6_minutesFor_43 : decode cX6_minutesFor 43 = .ok (.if_icmp .eq 11, 3) := by decide +kernel
theorem dX6_minutesFor_46 : decode cX6_minutesFor 46 = .ok (.aload_n 0, 1) := by decide +kernel
theorem dX6_minutesFor_47 : decode cX6_minutesFor 47 = .ok (.getfield 9, 3) := by decide +kernel
theorem dX6_minutesFor_50 : decode cX6_minutesFor 50 = .ok (.iconst 5, 1) := by decide +kernel
theorem dX6_minutesFor_51 : decode cX6_minutesFor 51 = .ok (.if_icmp .ne 9, 3) := by decide +kernel
theorem dX6_minutesFor_54 : decode cX6_minutesFor 54 = .ok (.iload_n 1, 1) := by decide +kernel
theorem dX6_minutesFor_55 : decode cX6_minutesFor 55 = .ok (.iload_n 2, 1) := by decide +kernel
theorem dX6_minutesFor_56 : decode cX6_minutesFor 56 = .ok (.iconst 3, 1) := by decide +kernel
theorem dX6_minutesFor_57 : decode cX6_minutesFor 57 = .ok (.iadd, 1) := by decide +kernel
theorem dX6_minutesFor_58 : decode cX6_minutesFor 58 = .ok (.imul, 1) := by decide +kernel
theorem dX6_minutesFor_59 : decode cX6_minutesFor 59 = .ok (.ireturn, 1) := by decide +kernel
theorem dX6_minutesFor_60 : decode cX6_minutesFor 60 = .ok (.iload_n 1, 1) := by decide +kernel
theorem dX6_minutesFor_61 : decode cX6_minutesFor 61 = .ok (.iload_n 2, 1) := by decide +kernel
theorem dX6_minutesFor_62 : decode cX6_minutesFor 62 = .ok (.imul, 1) := by decide +kernel
theorem dX6_minutesFor_63 : decode cX6_minutesFor 63 = .ok (.ireturn, 1) := by decide +kernel
theorem dX6_tiresBy_0 : decode cX6_tiresBy 0 = .ok (.aload_n 0, 1) := by decide +kernel
theorem dX6_tiresBy_1 : decode cX6_tiresBy 1 = .ok (.getfield 9, 3) := by decide +kernel
theorem dX6_tiresBy_4 : decode cX6_tiresBy 4 = .ok (.iconst 4, 1) := by decide +kernel
theorem dX6_tiresBy_5 : decode cX6_tiresBy 5 = .ok (.if_icmp .eq 15, 3) := by decide +kernel
theorem dX6_tiresBy_8 : decode cX6_tiresBy 8 = .ok (.aload_n 0, 1) := by decide +kernel
theorem dX6_tiresBy_9 : decode cX6_tiresBy 9 = .ok (.getfield 9, 3) := by decide +kernel
theorem dX6_tiresBy_12 : decode cX6_tiresBy 12 = .ok (.iconst 3, 1) := by decide +kernel
theorem dX6_tiresBy_13 : decode cX6_tiresBy 13 = .ok (.if_icmp .ne 9, 3) := by decide +kernel
theorem dX6_tiresBy_16 : decode cX6_tiresBy 16 = .ok (.iload_n 2, 1) := by decide +kernel
theorem dX6_tiresBy_17 : decode cX6_tiresBy 17 = .ok (.ifCond .eq 5, 3) := by decide +kernel
theorem dX6_tiresBy_20 : decode cX6_tiresBy 20 = .ok (.iconst 0, 1) := by decide +kernel
theorem dX6_tiresBy_21 : decode cX6_tiresBy 21 = .ok (.ireturn, 1) := by decide +kernel
theorem dX6_tiresBy_22 : decode cX6_tiresBy 22 = .ok (.iload_n 1, 1) := by decide +kernel
theorem dX6_tiresBy_23 : decode cX6_tiresBy 23 = .ok (.iconst 1, 1) := by decide +kernel
theorem dX6_tiresBy_24 : decode cX6_tiresBy 24 = .ok (.aload_n 0, 1) := by decide +kernel
theorem dX6_tiresBy_25 : decode cX6_tiresBy 25 = .ok (.getfield 18, 3) := by decide +kernel
theorem dX6_tiresBy_28 : decode cX6_tiresBy 28 = .ok (.iconst 2, 1) := by decide +kernel
theorem dX6_tiresBy_29 : decode cX6_tiresBy 29 = .ok (.idiv, 1) := by decide +kernel
theorem dX6_tiresBy_30 : decode cX6_tiresBy 30 = .ok (.iadd, 1) := by decide +kernel
theorem dX6_tiresBy_31 : decode cX6_tiresBy 31 = .ok (.imul, 1) := by decide +kernel
theorem dX6_tiresBy_32 : decode cX6_tiresBy 32 = .ok (.istore_n 3, 1) := by decide +kernel
theorem dX6_tiresBy_33 : decode cX6_tiresBy 33 = .ok (.aload_n 0, 1) := by decide +kernel
theorem dX6_tiresBy_34 : decode cX6_tiresBy 34 = .ok (.getfield 9, 3) := by decide +kernel
theorem dX6_tiresBy_37 : decode cX6_tiresBy 37 = .ok (.iconst 5, 1) := by decide +kernel
theorem dX6_tiresBy_38 : decode cX6_tiresBy 38 = .ok (.if_icmp .ne 9, 3) := by decide +kernel
theorem dX6_tiresBy_41 : decode cX6_tiresBy 41 = .ok (.iload_n 3, 1) := by decide +kernel
theorem dX6_tiresBy_42 : decode cX6_tiresBy 42 = .ok (.iload_n 1, 1) := by decide +kernel
theorem dX6_tiresBy_43 : decode cX6_tiresBy 43 = .ok (.iadd, 1) := by decide +kernel
theorem dX6_tiresBy_44 : decode cX6_tiresBy 44 = .ok (.goto 4, 3) := by decide +kernel
theorem dX6_tiresBy_47 : decode cX6_tiresBy 47 = .ok (.iload_n 3, 1) := by decide +kernel
theorem dX6_tiresBy_48 : decode cX6_tiresBy 48 = .ok (.ireturn, 1) := by decide +kernel
theorem dX6_leaveAt_0 : decode cX6_leaveAt 0 = .ok (.iload_n 1, 1) := by decide +kernel
theorem dX6_leaveAt_1 : decode cX6_leaveAt 1 = .ok (.aload_n 0, 1) := by decide +kernel
theorem dX6_leaveAt_2 : decode cX6_leaveAt 2 = .ok (.getfield 30, 3) := by decide +kernel
theorem dX6_leaveAt_5 : decode cX6_leaveAt 5 = .ok (.isub, 1) := by decide +kernel
theorem dX6_leaveAt_6 : decode cX6_leaveAt 6 = .ok (.istore_n 2, 1) := by decide +kernel
theorem dX6_leaveAt_7 : decode cX6_leaveAt 7 = .ok (.aload_n 0, 1) := by decide +kernel
theorem dX6_leaveAt_8 : decode cX6_leaveAt 8 = .ok (.dup, 1) := by decide +kernel
theorem dX6_leaveAt_9 : decode cX6_leaveAt 9 = .ok (.getfield 27, 3) := by decide +kernel
theorem dX6_leaveAt_12 : decode cX6_leaveAt 12 = .ok (.iload_n 2, 1) := by decide +kernel
theorem dX6_leaveAt_13 : decode cX6_leaveAt 13 = .ok (.iadd, 1) := by decide +kernel
theorem dX6_leaveAt_14 : decode cX6_leaveAt 14 = .ok (.putfield 27, 3) := by decide +kernel
theorem dX6_leaveAt_17 : decode cX6_leaveAt 17 = .ok (.aload_n 0, 1) := by decide +kernel
theorem dX6_leaveAt_18 : decode cX6_leaveAt 18 = .ok (.iconst 0, 1) := by decide +kernel
theorem dX6_leaveAt_19 : decode cX6_leaveAt 19 = .ok (.aload_n 0, 1) := by decide +kernel
theorem dX6_leaveAt_20 : decode cX6_leaveAt 20 = .ok (.getfield 21, 3) := by decide +kernel
theorem dX6_leaveAt_23 : decode cX6_leaveAt 23 = .ok (.iload_n 2, 1) := by decide +kernel
theorem dX6_leaveAt_24 : decode cX6_leaveAt 24 = .ok (.invokestatic 39, 3) := by decide +kernel
theorem dX6_leaveAt_27 : decode cX6_leaveAt 27 = .ok (.isub, 1) := by decide +kernel
theorem dX6_leaveAt_28 : decode cX6_leaveAt 28 = .ok (.invokestatic 33, 3) := by decide +kernel
theorem dX6_leaveAt_31 : decode cX6_leaveAt 31 = .ok (.putfield 21, 3) := by decide +kernel
theorem dX6_leaveAt_34 : decode cX6_leaveAt 34 = .ok (.aload_n 0, 1) := by decide +kernel
theorem dX6_leaveAt_35 : decode cX6_leaveAt 35 = .ok (.iload_n 1, 1) := by decide +kernel
theorem dX6_leaveAt_36 : decode cX6_leaveAt 36 = .ok (.putfield 24, 3) := by decide +kernel
theorem dX6_leaveAt_39 : decode cX6_leaveAt 39 = .ok (.return_, 1) := by decide +kernel
theorem dX6_mendedBy_0 : decode cX6_mendedBy 0 = .ok (.iload_n 0, 1) := by decide +kernel
theorem dX6_mendedBy_1 : decode cX6_mendedBy 1 = .ok (.iconst 2, 1) := by decide +kernel
theorem dX6_mendedBy_2 : decode cX6_mendedBy 2 = .ok (.if_icmp .ge 5, 3) := by decide +kernel
theorem dX6_mendedBy_5 : decode cX6_mendedBy 5 = .ok (.iconst 0, 1) := by decide +kernel
theorem dX6_mendedBy_6 : decode cX6_mendedBy 6 = .ok (.ireturn, 1) := by decide +kernel
theorem dX6_mendedBy_7 : decode cX6_mendedBy 7 = .ok (.iload_n 0, 1) := by decide +kernel
theorem dX6_mendedBy_8 : decode cX6_mendedBy 8 = .ok (.bipush 10, 2) := by decide +kernel
theorem dX6_mendedBy_10 : decode cX6_mendedBy 10 = .ok (.if_icmp .ge 5, 3) := by decide +kernel
theorem dX6_mendedBy_13 : decode cX6_mendedBy 13 = .ok (.iconst 2, 1) := by decide +kernel
theorem dX6_mendedBy_14 : decode cX6_mendedBy 14 = .ok (.ireturn, 1) := by decide +kernel
theorem dX6_mendedBy_15 : decode cX6_mendedBy 15 = .ok (.iload_n 0, 1) := by decide +kernel
theorem dX6_mendedBy_16 : decode cX6_mendedBy 16 = .ok (.bipush 20, 2) := by decide +kernel
theorem dX6_mendedBy_18 : decode cX6_mendedBy 18 = .ok (.if_icmp .gt 8, 3) := by decide +kernel
theorem dX6_mendedBy_21 : decode cX6_mendedBy 21 = .ok (.bipush 6, 2) := by decide +kernel
theorem dX6_mendedBy_23 : decode cX6_mendedBy 23 = .ok (.goto 4, 3) := by decide +kernel
theorem dX6_mendedBy_26 : decode cX6_mendedBy 26 = .ok (.iconst 4, 1) := by decide +kernel
theorem dX6_mendedBy_27 : decode cX6_mendedBy 27 = .ok (.ireturn, 1) := by decide +kernel
theorem dX7_init_0 : decode cX7_init 0 = .ok (.aload_n 0, 1) := by decide +kernel
theorem dX7_init_1 : decode cX7_init 1 = .ok (.invokespecial 3, 3) := by decide +kernel
theorem dX7_init_4 : decode cX7_init 4 = .ok (.aload_n 0, 1) := by decide +kernel
theorem dX7_init_5 : decode cX7_init 5 = .ok (.bipush 8, 2) := by decide +kernel
theorem dX7_init_7 : decode cX7_init 7 = .ok (.newarray .int, 2) := by decide +kernel
theorem dX7_init_9 : decode cX7_init 9 = .ok (.putfield 9, 3) := by decide +kernel
theorem dX7_init_12 : decode cX7_init 12 = .ok (.aload_n 0, 1) := by decide +kernel
theorem dX7_init_13 : decode cX7_init 13 = .ok (.new 15, 3) := by decide +kernel
theorem dX7_init_16 : decode cX7_init 16 = .ok (.dup, 1) := by decide +kernel
theorem dX7_init_17 : decode cX7_init 17 = .ok (.invokespecial 17, 3) := by decide +kernel
theorem dX7_init_20 : decode cX7_init 20 = .ok (.putfield 18, 3) := by decide +kernel
theorem dX7_init_23 : decode cX7_init 23 = .ok (.return_, 1) := by decide +kernel
theorem dX7_become_0 : decode cX7_become 0 = .ok (.aload_n 0, 1) := by decide +kernel
theorem dX7_become_1 : decode cX7_become 1 = .ok (.aload_n 1, 1) := by decide +kernel
theorem dX7_become_2 : decode cX7_become 2 = .ok (.getfield 22, 3) := by decide +kernel
theorem dX7_become_5 : decode cX7_become 5 = .ok (.putfield 22, 3) := by decide +kernel
theorem dX7_become_8 : decode cX7_become 8 = .ok (.aload_n 0, 1) := by decide +kernel
theorem dX7_become_9 : decode cX7_become 9 = .ok (.aload_n 1, 1) := by decide +kernel
theorem dX7_become_10 : decode cX7_become 10 = .ok (.getfield 26, 3) := by decide +kernel
theorem dX7_become_13 : decode cX7_become 13 = .ok (.putfield 26, 3) := by decide +kernel
theorem dX7_become_16 : decode cX7_become 16 = .ok (.aload_n 0, 1) := by decide +kernel
theorem dX7_become_17 : decode cX7_become 17 = .ok (.aload_n 1, 1) := by decide +kernel
theorem dX7_become_18 : decode cX7_become 18 = .ok (.getfield 30, 3) := by decide +kernel
theorem dX7_become_21 : decode cX7_become 21 = .ok (.putfield 30, 3) := by decide +kernel
theorem dX7_become_24 : decode cX7_become 24 = .ok (.aload_n 0, 1) := by decide +kernel
theorem dX7_become_25 : decode cX7_become 25 = .ok (.aload_n 1, 1) := by decide +kernel
theorem dX7_become_26 : decode cX7_become 26 = .ok (.getfield 33, 3) := by decide +kernel
theorem dX7_become_29 : decode cX7_become 29 = .ok (.putfield 33, 3) := by decide +kernel
theorem dX7_become_32 : decode cX7_become 32 = .ok (.aload_n 0, 1) := by decide +kernel
theorem dX7_become_33 : decode cX7_become 33 = .ok (.aload_n 1, 1) := by decide +kernel
theorem dX7_become_34 : decode cX7_become 34 = .ok (.getfield 36, 3) := by decide +kernel
theorem dX7_become_37 : decode cX7_become 37 = .ok (.putfield 36, 3) := by decide +kernel
theorem dX7_become_40 : decode cX7_become 40 = .ok (.aload_n 0, 1) := by decide +kernel
theorem dX7_become_41 : decode cX7_become 41 = .ok (.aload_n 1, 1) := by decide +kernel
theorem dX7_become_42 : decode cX7_become 42 = .ok (.getfield 39, 3) := by decide +kernel
theorem dX7_become_45 : decode cX7_become 45 = .ok (.putfield 39, 3) := by decide +kernel
theorem dX7_become_48 : decode cX7_become 48 = .ok (.aload_n 1, 1) := by decide +kernel
theorem dX7_become_49 : decode cX7_become 49 = .ok (.getfield 9, 3) := by decide +kernel
theorem dX7_become_52 : decode cX7_become 52 = .ok (.iconst 0, 1) := by decide +kernel
theorem dX7_become_53 : decode cX7_become 53 = .ok (.aload_n 0, 1) := by decide +kernel
theorem dX7_become_54 : decode cX7_become 54 = .ok (.getfield 9, 3) := by decide +kernel
theorem dX7_become_57 : decode cX7_become 57 = .ok (.iconst 0, 1) := by decide +kernel
theorem dX7_become_58 : decode cX7_become 58 = .ok (.aload_n 0, 1) := by decide +kernel
theorem dX7_become_59 : decode cX7_become 59 = .ok (.getfield 9, 3) := by decide +kernel
theorem dX7_become_62 : decode cX7_become 62 = .ok (.arraylength, 1) := by decide +kernel
theorem dX7_become_63 : decode cX7_become 63 = .ok (.invokestatic 42, 3) := by decide +kernel
theorem dX7_become_66 : decode cX7_become 66 = .ok (.aload_n 0, 1) := by decide +kernel
theorem dX7_become_67 : decode cX7_become 67 = .ok (.getfield 18, 3) := by decide +kernel
theorem dX7_become_70 : decode cX7_become 70 = .ok (.aload_n 1, 1) := by decide +kernel
theorem dX7_become_71 : decode cX7_become 71 = .ok (.getfield 18, 3) := by decide +kernel
theorem dX7_become_74 : decode cX7_become 74 = .ok (.invokevirtual 48, 3) := by decide +kernel
theorem dX7_become_77 : decode cX7_become 77 = .ok (.return_, 1) := by decide +kernel
theorem dX7_move_0 : decode cX7_move 0 = .ok (.iload_n 2, 1) := by decide +kernel
theorem dX7_move_1 : decode cX7_move 1 = .ok (.iconst 1, 1) := by decide +kernel
theorem dX7_move_2 : decode cX7_move 2 = .ok (.iadd, 1) := by decide +kernel
theorem dX7_move_3 : decode cX7_move 3 = .ok (.aload_n 0, 1) := by decide +kernel
theorem dX7_move_4 : decode cX7_move 4 = .ok (.getfield 26, 3) := by decide +kernel
theorem dX7_move_7 : decode cX7_move 7 = .ok (.if_icmp .lt 7, 3) := by decide +kernel
theorem dX7_move_10 : decode cX7_move 10 = .ok (.iconst 1, 1) := by decide +kernel
theorem dX7_move_11 : decode cX7_move 11 = .ok (.goto 4, 3) := by decide +kernel
theorem dX7_move_14 : decode cX7_move 14 = .ok (.iconst 0, 1) := by decide +kernel
theorem dX7_move_15 : decode cX7_move 15 = .ok (.istore 5, 2) := by decide +kernel
theorem dX7_move_17 : decode cX7_move 17 = .ok (.aload_n 1, 1) := by decide +kernel
theorem dX7_move_18 : decode cX7_move 18 = .ok (.aload_n 0, 1) := by decide +kernel
theorem dX7_move_19 : decode cX7_move 19 = .ok (.getfield 9, 3) := by decide +kernel
theorem dX7_move_22 : decode cX7_move 22 = .ok (.iload_n 2, 1) := by decide +kernel
theorem dX7_move_23 : decode cX7_move 23 = .ok (.iaload, 1) := by decide +kernel
theorem dX7_move_24 : decode cX7_move 24 = .ok (.invokevirtual 52, 3) := by decide +kernel
theorem dX7_move_27 : decode cX7_move 27 = .ok (.aload_n 1, 1) := by decide +kernel
theorem dX7_move_28 : decode cX7_move 28 = .ok (.iload 5, 2) := by decide +kernel
theorem dX7_move_30 : decode cX7_move 30 = .ok (.ifCond .eq 7, 3) := by decide +kernel
theorem dX7_move_33 : decode cX7_move 33 = .ok (.iconst 3, 1) := by decide +kernel
theorem dX7_move_34 : decode cX7_move 34 = .ok (.goto 4, 3) := by decide +kernel
theorem dX7_move_37 : decode cX7_move 37 = .ok (.iload_n 3, 1) := by decide +kernel
theorem dX7_move_38 : decode cX7_move 38 = .ok (.iload 4, 2) := by decide +kernel
theorem dX7_move_40 : decode cX7_move 40 = .ok (.invokevirtual 56, 3) := by decide +kernel
theorem dX7_move_43 : decode cX7_move 43 = .ok (.return_, 1) := by decide +kernel
theorem dX8_init_0 : decode cX8_init 0 = .ok (.aload_n 0, 1) := by decide +kernel
theorem dX8_init_1 : decode cX8_init 1 = .ok (.invokespecial 1, 3) := by decide +kernel
theorem dX8_init_4 : decode cX8_init 4 = .ok (.aload_n 0, 1) := by decide +kernel
theorem dX8_init_5 : decode cX8_init 5 = .ok (.bipush 8, 2) := by decide +kernel
theorem dX8_init_7 : decode cX8_init 7 = .ok (.anewarray 9, 3) := by decide +kernel
theorem dX8_init_10 : decode cX8_init 10 = .ok (.putfield 11, 3) := by decide +kernel
theorem dX8_init_13 : decode cX8_init 13 = .ok (.aload_n 0, 1) := by decide +kernel
theorem dX8_init_14 : decode cX8_init 14 = .ok (.new 15, 3) := by decide +kernel
theorem dX8_init_17 : decode cX8_init 17 = .ok (.dup, 1) := by decide +kernel
theorem dX8_init_18 : decode cX8_init 18 = .ok (.invokespecial 17, 3) := by decide +kernel
theorem dX8_init_21 : decode cX8_init 21 = .ok (.putfield 18, 3) := by decide +kernel
theorem dX8_init_24 : decode cX8_init 24 = .ok (.aload_n 0, 1) := by decide +kernel
theorem dX8_init_25 : decode cX8_init 25 = .ok (.new 22, 3) := by decide +kernel
theorem dX8_init_28 : decode cX8_init 28 = .ok (.dup, 1) := by decide +kernel
theorem dX8_init_29 : decode cX8_init 29 = .ok (.invokespecial 24, 3) := by decide +kernel
theorem dX8_init_32 : decode cX8_init 32 = .ok (.putfield 25, 3) := by decide +kernel
theorem dX8_init_35 : decode cX8_init 35 = .ok (.aload_n 0, 1) := by decide +kernel
theorem dX8_init_36 : decode cX8_init 36 = .ok (.new 22, 3) := by decide +kernel
theorem dX8_init_39 : decode cX8_init 39 = .ok (.dup, 1) := by decide +kernel
theorem dX8_init_40 : decode cX8_init 40 = .ok (.invokespecial 24, 3) := by decide +kernel
theorem dX8_init_43 : decode cX8_init 43 = .ok (.putfield 29, 3) := by decide +kernel
theorem dX8_init_46 : decode cX8_init 46 = .ok (.aload_n 0, 1) := by decide +kernel
theorem dX8_init_47 : decode cX8_init 47 = .ok (.iconst 2, 1) := by decide +kernel
theorem dX8_init_48 : decode cX8_init 48 = .ok (.anewarray 22, 3) := by decide +kernel
theorem dX8_init_51 : decode cX8_init 51 = .ok (.putfield 32, 3) := by decide +kernel
theorem dX8_init_54 : decode cX8_init 54 = .ok (.aload_n 0, 1) := by decide +kernel
theorem dX8_init_55 : decode cX8_init 55 = .ok (.new 36, 3) := by decide +kernel
theorem dX8_init_58 : decode cX8_init 58 = .ok (.dup, 1) := by decide +kernel
theorem dX8_init_59 : decode cX8_init 59 = .ok (.invokespecial 38, 3) := by decide +kernel
theorem dX8_init_62 : decode cX8_init 62 = .ok (.putfield 39, 3) := by decide +kernel
theorem dX8_init_65 : decode cX8_init 65 = .ok (.aload_n 0, 1) := by decide +kernel
theorem dX8_init_66 : decode cX8_init 66 = .ok (.new 43, 3) := by decide +kernel
theorem dX8_init_69 : decode cX8_init 69 = .ok (.dup, 1) := by decide +kernel
theorem dX8_init_70 : decode cX8_init 70 = .ok (.invokespecial 45, 3) := by decide +kernel
theorem dX8_init_73 : decode cX8_init 73 = .ok (.putfield 46, 3) := by decide +kernel
theorem dX8_init_76 : decode cX8_init 76 = .ok (.aload_n 0, 1) := by decide +kernel
theorem dX8_init_77 : decode cX8_init 77 = .ok (.new 50, 3) := by decide +kernel
theorem dX8_init_80 : decode cX8_init 80 = .ok (.dup, 1) := by decide +kernel
theorem dX8_init_81 : decode cX8_init 81 = .ok (.invokespecial 52, 3) := by decide +kernel
theorem dX8_init_84 : decode cX8_init 84 = .ok (.putfield 53, 3) := by decide +kernel
theorem dX8_init_87 : decode cX8_init 87 = .ok (.iconst 0, 1) := by decide +kernel
theorem dX8_init_88 : decode cX8_init 88 = .ok (.istore_n 1, 1) := by decide +kernel
theorem dX8_init_89 : decode cX8_init 89 = .ok (.iload_n 1, 1) := by decide +kernel
theorem dX8_init_90 : decode cX8_init 90 = .ok (.aload_n 0, 1) := by decide +kernel
theorem dX8_init_91 : decode cX8_init 91 = .ok (.getfield 11, 3) := by decide +kernel
theorem dX8_init_94 : decode cX8_init 94 = .ok (.arraylength, 1) := by decide +kernel
theorem dX8_init_95 : decode cX8_init 95 = .ok (.if_icmp .ge 22, 3) := by decide +kernel
theorem dX8_init_98 : decode cX8_init 98 = .ok (.aload_n 0, 1) := by decide +kernel
theorem dX8_init_99 : decode cX8_init 99 = .ok (.getfield 11, 3) := by decide +kernel
theorem dX8_init_102 : decode cX8_init 102 = .ok (.iload_n 1, 1) := by decide +kernel
theorem dX8_init_103 : decode cX8_init 103 = .ok (.new 9, 3) := by decide +kernel
theorem dX8_init_106 : decode cX8_init 106 = .ok (.dup, 1) := by decide +kernel
theorem dX8_init_107 : decode cX8_init 107 = .ok (.invokespecial 57, 3) := by decide +kernel
theorem dX8_init_110 : decode cX8_init 110 = .ok (.aastore, 1) := by decide +kernel
theorem dX8_init_111 : decode cX8_init 111 = .ok (.iinc 1 1, 3) := by decide +kernel
theorem dX8_init_114 : decode cX8_init 114 = .ok (.goto (-25), 3) := by decide +kernel
theorem dX8_init_117 : decode cX8_init 117 = .ok (.iconst 0, 1) := by decide +kernel
theorem dX8_init_118 : decode cX8_init 118 = .ok (.istore_n 1, 1) := by decide +kernel
theorem dX8_init_119 : decode cX8_init 119 = .ok (.iload_n 1, 1) := by decide +kernel
theorem dX8_init_120 : decode cX8_init 120 = .ok (.aload_n 0, 1) := by decide +kernel
theorem dX8_init_121 : decode cX8_init 121 = .ok (.getfield 32, 3) := by decide +kernel
theorem dX8_init_124 : decode cX8_init 124 = .ok (.arraylength, 1) := by decide +kernel
theorem dX8_init_125 : decode cX8_init 125 = .ok (.if_icmp .ge 22, 3) := by decide +kernel
theorem dX8_init_128 : decode cX8_init 128 = .ok (.aload_n 0, 1) := by decide +kernel
theorem dX8_init_129 : decode cX8_init 129 = .ok (.getfield 32, 3) := by decide +kernel
theorem dX8_init_132 : decode cX8_init 132 = .ok (.iload_n 1, 1) := by decide +kernel
theorem dX8_init_133 : decode cX8_init 133 = .ok (.new 22, 3) := by decide +kernel
theorem dX8_init_136 : decode cX8_init 136 = .ok (.dup, 1) := by decide +kernel
theorem dX8_init_137 : decode cX8_init 137 = .ok (.invokespecial 24, 3) := by decide +kernel
theorem dX8_init_140 : decode cX8_init 140 = .ok (.aastore, 1) := by decide +kernel
theorem dX8_init_141 : decode cX8_init 141 = .ok (.iinc 1 1, 3) := by decide +kernel
theorem dX8_init_144 : decode cX8_init 144 = .ok (.goto (-25), 3) := by decide +kernel
theorem dX8_init_147 : decode cX8_init 147 = .ok (.return_, 1) := by decide +kernel
theorem dX8_row_0 : decode cX8_row 0 = .ok (.iload_n 1, 1) := by decide +kernel
theorem dX8_row_1 : decode cX8_row 1 = .ok (.bipush 8, 2) := by decide +kernel
theorem dX8_row_3 : decode cX8_row 3 = .ok (.invokestatic 58, 3) := by decide +kernel
theorem dX8_row_6 : decode cX8_row 6 = .ok (.ifCond .eq 17, 3) := by decide +kernel
theorem dX8_row_9 : decode cX8_row 9 = .ok (.iload_n 2, 1) := by decide +kernel
theorem dX8_row_10 : decode cX8_row 10 = .ok (.iconst 3, 1) := by decide +kernel
theorem dX8_row_11 : decode cX8_row 11 = .ok (.invokestatic 58, 3) := by decide +kernel
theorem dX8_row_14 : decode cX8_row 14 = .ok (.ifCond .eq 9, 3) := by decide +kernel
theorem dX8_row_17 : decode cX8_row 17 = .ok (.iload_n 3, 1) := by decide +kernel
theorem dX8_row_18 : decode cX8_row 18 = .ok (.bipush 40, 2) := by decide +kernel
theorem dX8_row_20 : decode cX8_row 20 = .ok (.if_icmp .le 6, 3) := by decide +kernel
theorem dX8_row_23 : decode cX8_row 23 = .ok (.ldc 62, 2) := by decide +kernel
theorem dX8_row_25 : decode cX8_row 25 = .ok (.ireturn, 1) := by decide +kernel
theorem dX8_row_26 : decode cX8_row 26 = .ok (.iload_n 3, 1) := by decide +kernel
theorem dX8_row_27 : decode cX8_row 27 = .ok (.ifCond .ge 9, 3) := by decide +kernel
theorem dX8_row_30 : decode cX8_row 30 = .ok (.aload_n 0, 1) := by decide +kernel
theorem dX8_row_31 : decode cX8_row 31 = .ok (.iconst 4, 1) := by decide +kernel
theorem dX8_row_32 : decode cX8_row 32 = .ok (.invokevirtual 63, 3) := by decide +kernel
theorem dX8_row_35 : decode cX8_row 35 = .ok (.ireturn, 1) := by decide +kernel
theorem dX8_row_36 : decode cX8_row 36 = .ok (.aload_n 0, 1) := by decide +kernel
theorem dX8_row_37 : decode cX8_row 37 = .ok (.getfield 11, 3) := by decide +kernel
theorem dX8_row_40 : decode cX8_row 40 = .ok (.iload_n 1, 1) := by decide +kernel
theorem dX8_row_41 : decode cX8_row 41 = .ok (.aaload, 1) := by decide +kernel
theorem dX8_row_42 : decode cX8_row 42 = .ok (.iload_n 2, 1) := by decide +kernel
theorem dX8_row_43 : decode cX8_row 43 = .ok (.iload_n 3, 1) := by decide +kernel
theorem dX8_row_44 : decode cX8_row 44 = .ok (.invokevirtual 67, 3) := by decide +kernel
theorem dX8_row_47 : decode cX8_row 47 = .ok (.aload_n 0, 1) := by decide +kernel
theorem dX8_row_48 : decode cX8_row 48 = .ok (.iload_n 3, 1) := by decide +kernel
theorem dX8_row_49 : decode cX8_row 49 = .ok (.invokevirtual 71, 3) := by decide +kernel
theorem dX8_row_52 : decode cX8_row 52 = .ok (.ireturn, 1) := by decide +kernel
theorem dX8_set_0 : decode cX8_set 0 = .ok (.iload_n 1, 1) := by decide +kernel
theorem dX8_set_1 : decode cX8_set 1 = .ok (.bipush 8, 2) := by decide +kernel
theorem dX8_set_3 : decode cX8_set 3 = .ok (.invokestatic 58, 3) := by decide +kernel
theorem dX8_set_6 : decode cX8_set 6 = .ok (.ifCond .ne 6, 3) := by decide +kernel
theorem dX8_set_9 : decode cX8_set 9 = .ok (.ldc 62, 2) := by decide +kernel
theorem dX8_set_11 : decode cX8_set 11 = .ok (.ireturn, 1) := by decide +kernel
theorem dX8_set_12 : decode cX8_set 12 = .ok (.aload_n 0, 1) := by decide +kernel
theorem dX8_set_13 : decode cX8_set 13 = .ok (.getfield 11, 3) := by decide +kernel
theorem dX8_set_16 : decode cX8_set 16 = .ok (.iload_n 1, 1) := by decide +kernel
theorem dX8_set_17 : decode cX8_set 17 = .ok (.aaload, 1) := by decide +kernel
theorem dX8_set_18 : decode cX8_set 18 = .ok (.astore 4, 2) := by decide +kernel
theorem dX8_set_20 : decode cX8_set 20 = .ok (.aload 4, 2) := by decide +kernel
theorem dX8_set_22 : decode cX8_set 22 = .ok (.getfield 74, 3) := by decide +kernel
theorem dX8_set_25 : decode cX8_set 25 = .ok (.ifCond .eq 9, 3) := by decide +kernel
theorem dX8_set_28 : decode cX8_set 28 = .ok (.aload_n 0, 1) := by decide +kernel
theorem dX8_set_29 : decode cX8_set 29 = .ok (.iconst 1, 1) := by decide +kernel
theorem dX8_set_30 : decode cX8_set 30 = .ok (.invokevirtual 63, 3) := by decide +kernel
theorem dX8_set_33 : decode cX8_set 33 = .ok (.ireturn, 1) := by decide +kernel
theorem dX8_set_34 : decode cX8_set 34 = .ok (.iload_n 2, 1) := by decide +kernel
theorem dX8_set_35 : decode cX8_set 35 = .ok (.aload 4, 2) := by decide +kernel
theorem dX8_set_37 : decode cX8_set 37 = .ok (.getfield 78, 3) := by decide +kernel
theorem dX8_set_40 : decode cX8_set 40 = .ok (.invokestatic 58, 3) := by decide +kernel
theorem dX8_set_43 : decode cX8_set 43 = .ok (.ifCond .ne 9, 3) := by decide +kernel
theorem dX8_set_46 : decode cX8_set 46 = .ok (.aload_n 0, 1) := by decide +kernel
theorem dX8_set_47 : decode cX8_set 47 = .ok (.iconst 2, 1) := by decide +kernel
theorem dX8_set_48 : decode cX8_set 48 = .ok (.invokevirtual 63, 3) := by decide +kernel
theorem dX8_set_51 : decode cX8_set 51 = .ok (.ireturn, 1) := by decide +kernel
theorem dX8_set_52 : decode cX8_set 52 = .ok (.aload_n 0, 1) := by decide +kernel
theorem dX8_set_53 : decode cX8_set 53 = .ok (.aload 4, 2) := by decide +kernel
theorem dX8_set_55 : decode cX8_set 55 = .ok (.iload_n 2, 1) := by decide +kernel
theorem dX8_set_56 : decode cX8_set 56 = .ok (.iload_n 3, 1) := by decide +kernel
theorem dX8_set_57 : decode cX8_set 57 = .ok (.invokevirtual 82, 3) := by decide +kernel
theorem dX8_set_60 : decode cX8_set 60 = .ok (.invokevirtual 71, 3) := by decide +kernel
theorem dX8_set_63 : decode cX8_set 63 = .ok (.ireturn, 1) := by decide +kernel
theorem dX8_copy_0 : decode cX8_copy 0 = .ok (.iload_n 1, 1) := by decide +kernel
theorem dX8_copy_1 : decode cX8_copy 1 = .ok (.bipush 8, 2) := by decide +kernel
theorem dX8_copy_3 : decode cX8_copy 3 = .ok (.invokestatic 58, 3) := by decide +kernel
theorem dX8_copy_6 : decode cX8_copy 6 = .ok (.ifCond .eq 12, 3) := by decide +kernel
theorem dX8_copy_9 : decode cX8_copy 9 = .ok (.iload_n 3, 1) := by decide +kernel
theorem dX8_copy_10 : decode cX8_copy 10 = .ok (.bipush 8, 2) := by decide +kernel
theorem dX8_copy_12 : decode cX8_copy 12 = .ok (.invokestatic 58, 3) := by decide +kernel
theorem dX8_copy_15 : decode cX8_copy 15 = .ok (.ifCond .ne 6, 3) := by decide +kernel
theorem dX8_copy_18 : decode cX8_copy 18 = .ok (.ldc 62, 2) := by decide +kernel
theorem dX8_copy_20 : decode cX8_copy 20 = .ok (.ireturn, 1) := by decide +kernel
theorem dX8_copy_21 : decode cX8_copy 21 = .ok (.aload_n 0, 1) := by decide +kernel
theorem dX8_copy_22 : decode cX8_copy 22 = .ok (.getfield 11, 3) := by decide +kernel
theorem dX8_copy_25 : decode cX8_copy 25 = .ok (.iload_n 1, 1) := by decide +kernel
theorem dX8_copy_26 : decode cX8_copy 26 = .ok (.aaload, 1) := by decide +kernel
theorem dX8_copy_27 : decode cX8_copy 27 = .ok (.astore 6, 2) := by decide +kernel
theorem dX8_copy_29 : decode cX8_copy 29 = .ok (.aload_n 0, 1) := by decide +kernel
theorem dX8_copy_30 : decode cX8_copy 30 = .ok (.getfield 11, 3) := by decide +kernel
theorem dX8_copy_33 : decode cX8_copy 33 = .ok (.iload_n 3, 1) := by decide +kernel
theorem dX8_copy_34 : decode cX8_copy 34 = .ok (.aaload, 1) := by decide +kernel
theorem dX8_copy_35 : decode cX8_copy 35 = .ok (.astore 7, 2) := by decide +kernel
theorem dX8_copy_37 : decode cX8_copy 37 = .ok (.aload 6, 2) := by decide +kernel
theorem dX8_copy_39 : decode cX8_copy 39 = .ok (.getfield 74, 3) := by decide +kernel
theorem dX8_copy_42 : decode cX8_copy 42 = .ok (.ifCond .ne 11, 3) := by decide +kernel
theorem dX8_copy_45 : decode cX8_copy 45 = .ok (.aload 7, 2) := by decide +kernel
theorem dX8_copy_47 : decode cX8_copy 47 = .ok (.getfield 74, 3) := by decide +kernel
theorem dX8_copy_50 : decode cX8_copy 50 = .ok (.ifCond .eq 9, 3) := by decide +kernel
theorem dX8_copy_53 : decode cX8_copy 53 = .ok (.aload_n 0, 1) := by decide +kernel
theorem dX8_copy_54 : decode cX8_copy 54 = .ok (.iconst 1, 1) := by decide +kernel
theorem dX8_copy_55 : decode cX8_copy 55 = .ok (.invokevirtual 63, 3) := by decide +kernel
theorem dX8_copy_58 : decode cX8_copy 58 = .ok (.ireturn, 1) := by decide +kernel
theorem dX8_copy_59 : decode cX8_copy 59 = .ok (.aload 6, 2) := by decide +kernel
theorem dX8_copy_61 : decode cX8_copy 61 = .ok (.getfield 86, 3) := by decide +kernel
theorem dX8_copy_64 : decode cX8_copy 64 = .ok (.aload 7, 2) := by decide +kernel
theorem dX8_copy_66 : decode cX8_copy 66 = .ok (.getfield 86, 3) := by decide +kernel
theorem dX8_copy_69 : decode cX8_copy 69 = .ok (.if_icmp .eq 9, 3) := by decide +kernel
theorem dX8_copy_72 : decode cX8_copy 72 = .ok (.aload_n 0, 1) := by decide +kernel
theorem dX8_copy_73 : decode cX8_copy 73 = .ok (.iconst 5, 1) := by decide +kernel
theorem dX8_copy_74 : decode cX8_copy 74 = .ok (.invokevirtual 63, 3) := by decide +kernel
theorem dX8_copy_77 : decode cX8_copy 77 = .ok (.ireturn, 1) := by decide +kernel
theorem dX8_copy_78 : decode cX8_copy 78 = .ok (.aload 6, 2) := by decide +kernel
theorem dX8_copy_80 : decode cX8_copy 80 = .ok (.iload_n 2, 1) := by decide +kernel
theorem dX8_copy_81 : decode cX8_copy 81 = .ok (.iload 5, 2) := by decide +kernel
theorem dX8_copy_83 : decode cX8_copy 83 = .ok (.invokevirtual 89, 3) := by decide +kernel
theorem dX8_copy_86 : decode cX8_copy 86 = .ok (.ifCond .eq 15, 3) := by decide +kernel
theorem dX8_copy_89 : decode cX8_copy 89 = .ok (.aload 7, 2) := by decide +kernel
theorem dX8_copy_91 : decode cX8_copy 91 = .ok (.iload 4, 2) := by decide +kernel
theorem dX8_copy_93 : decode cX8_copy 93 = .ok (.iload 5, 2) := by decide +kernel
theorem dX8_copy_95 : decode cX8_copy 95 = .ok (.invokevirtual 89, 3) := by decide +kernel
theorem dX8_copy_98 : decode cX8_copy 98 = .ok (.ifCond .ne 9, 3) := by decide +kernel
theorem dX8_copy_101 : decode cX8_copy 101 = .ok (.aload_n 0, 1) := by decide +kernel
theorem dX8_copy_102 : decode cX8_copy 102 = .ok (.iconst 2, 1) := by decide +kernel
theorem dX8_copy_103 : decode cX8_copy 103 = .ok (.invokevirtual 63, 3) := by decide +kernel
theorem dX8_copy_106 : decode cX8_copy 106 = .ok (.ireturn, 1) := by decide +kernel
theorem dX8_copy_107 : decode cX8_copy 107 = .ok (.aload 6, 2) := by decide +kernel
theorem dX8_copy_109 : decode cX8_copy 109 = .ok (.getfield 92, 3) := by decide +kernel
theorem dX8_copy_112 : decode cX8_copy 112 = .ok (.iload_n 2, 1) := by decide +kernel
theorem dX8_copy_113 : decode cX8_copy 113 = .ok (.aload 7, 2) := by decide +kernel
theorem dX8_copy_115 : decode cX8_copy 115 = .ok (.getfield 92, 3) := by decide +kernel
theorem dX8_copy_118 : decode cX8_copy 118 = .ok (.iload 4, 2) := by decide +kernel
theorem dX8_copy_120 : decode cX8_copy 120 = .ok (.iload 5, 2) := by decide +kernel
theorem dX8_copy_122 : decode cX8_copy 122 = .ok (.invokestatic 96, 3) := by decide +kernel
theorem dX8_copy_125 : decode cX8_copy 125 = .ok (.aload_n 0, 1) := by decide +kernel
theorem dX8_copy_126 : decode cX8_copy 126 = .ok (.iload 5, 2) := by decide +kernel
theorem dX8_copy_128 : decode cX8_copy 128 = .ok (.invokevirtual 71, 3) := by decide +kernel
theorem dX8_copy_131 : decode cX8_copy 131 = .ok (.ireturn, 1) := by decide +kernel
theorem dX8_drop_0 : decode cX8_drop 0 = .ok (.iload_n 1, 1) := by decide +kernel
theorem dX8_drop_1 : decode cX8_drop 1 = .ok (.bipush 8, 2) := by decide +kernel
theorem dX8_drop_3 : decode cX8_drop 3 = .ok (.invokestatic 58, 3) := by decide +kernel
theorem dX8_drop_6 : decode cX8_drop 6 = .ok (.ifCond .ne 6, 3) := by decide +kernel
theorem dX8_drop_9 : decode cX8_drop 9 = .ok (.ldc 62, 2) := by decide +kernel
theorem dX8_drop_11 : decode cX8_drop 11 = .ok (.ireturn, 1) := by decide +kernel
theorem dX8_drop_12 : decode cX8_drop 12 = .ok (.aload_n 0, 1) := by decide +kernel
theorem dX8_drop_13 : decode cX8_drop 13 = .ok (.getfield 11, 3) := by decide +kernel
theorem dX8_drop_16 : decode cX8_drop 16 = .ok (.iload_n 1, 1) := by decide +kernel
theorem dX8_drop_17 : decode cX8_drop 17 = .ok (.aaload, 1) := by decide +kernel
theorem dX8_drop_18 : decode cX8_drop 18 = .ok (.astore_n 2, 1) := by decide +kernel
theorem dX8_drop_19 : decode cX8_drop 19 = .ok (.aload_n 2, 1) := by decide +kernel
theorem dX8_drop_20 : decode cX8_drop 20 = .ok (.getfield 74, 3) := by decide +kernel
theorem dX8_drop_23 : decode cX8_drop 23 = .ok (.ifCond .eq 9, 3) := by decide +kernel
theorem dX8_drop_26 : decode cX8_drop 26 = .ok (.aload_n 0, 1) := by decide +kernel
theorem dX8_drop_27 : decode cX8_drop 27 = .ok (.iconst 1, 1) := by decide +kernel
theorem dX8_drop_28 : decode cX8_drop 28 = .ok (.invokevirtual 63, 3) := by decide +kernel
theorem dX8_drop_31 : decode cX8_drop 31 = .ok (.ireturn, 1) := by decide +kernel
theorem dX8_drop_32 : decode cX8_drop 32 = .ok (.aload_n 2, 1) := by decide +kernel
theorem dX8_drop_33 : decode cX8_drop 33 = .ok (.iconst 1, 1) := by decide +kernel
theorem dX8_drop_34 : decode cX8_drop 34 = .ok (.putfield 74, 3) := by decide +kernel
theorem dX8_drop_37 : decode cX8_drop 37 = .ok (.aload_n 0, 1) := by decide +kernel
theorem dX8_drop_38 : decode cX8_drop 38 = .ok (.aload_n 2, 1) := by decide +kernel
theorem dX8_drop_39 : decode cX8_drop 39 = .ok (.getfield 78, 3) := by decide +kernel
theorem dX8_drop_42 : decode cX8_drop 42 = .ok (.invokevirtual 71, 3) := by decide +kernel
theorem dX8_drop_45 : decode cX8_drop 45 = .ok (.ireturn, 1) := by decide +kernel
theorem dX8_feed_0 : decode cX8_feed 0 = .ok (.iload_n 1, 1) := by decide +kernel
theorem dX8_feed_1 : decode cX8_feed 1 = .ok (.sipush 256, 3) := by decide +kernel
theorem dX8_feed_4 : decode cX8_feed 4 = .ok (.invokestatic 58, 3) := by decide +kernel
theorem dX8_feed_7 : decode cX8_feed 7 = .ok (.ifCond .ne 6, 3) := by decide +kernel
theorem dX8_feed_10 : decode cX8_feed 10 = .ok (.ldc 62, 2) := by decide +kernel
theorem dX8_feed_12 : decode cX8_feed 12 = .ok (.ireturn, 1) := by decide +kernel
theorem dX8_feed_13 : decode cX8_feed 13 = .ok (.aload_n 0, 1) := by decide +kernel
theorem dX8_feed_14 : decode cX8_feed 14 = .ok (.getfield 18, 3) := by decide +kernel
theorem dX8_feed_17 : decode cX8_feed 17 = .ok (.getfield 102, 3) := by decide +kernel
theorem dX8_feed_20 : decode cX8_feed 20 = .ok (.bipush 120, 2) := by decide +kernel
theorem dX8_feed_22 : decode cX8_feed 22 = .ok (.if_icmp .ne 6, 3) := by decide +kernel
theorem dX8_feed_25 : decode cX8_feed 25 = .ok (.ldc 105, 2) := by decide +kernel
theorem dX8_feed_27 : decode cX8_feed 27 = .ok (.ireturn, 1) := by decide +kernel
theorem dX8_feed_28 : decode cX8_feed 28 = .ok (.aload_n 0, 1) := by decide +kernel
theorem dX8_feed_29 : decode cX8_feed 29 = .ok (.getfield 18, 3) := by decide +kernel
theorem dX8_feed_32 : decode cX8_feed 32 = .ok (.iload_n 1, 1) := by decide +kernel
theorem dX8_feed_33 : decode cX8_feed 33 = .ok (.invokevirtual 106, 3) := by decide +kernel
theorem dX8_feed_36 : decode cX8_feed 36 = .ok (.ireturn, 1) := by decide +kernel
theorem dX8_way_0 : decode cX8_way 0 = .ok (.aload_n 0, 1) := by decide +kernel
theorem dX8_way_1 : decode cX8_way 1 = .ok (.getfield 18, 3) := by decide +kernel
theorem dX8_way_4 : decode cX8_way 4 = .ok (.aload_n 0, 1) := by decide +kernel
theorem dX8_way_5 : decode cX8_way 5 = .ok (.getfield 29, 3) := by decide +kernel
theorem dX8_way_8 : decode cX8_way 8 = .ok (.invokevirtual 109, 3) := by decide +kernel
theorem dX8_way_11 : decode cX8_way 11 = .ok (.ifCond .ne 14, 3) := by decide +kernel
theorem dX8_way_14 : decode cX8_way 14 = .ok (.ldc 113, 2) := by decide +kernel
theorem dX8_way_16 : decode cX8_way 16 = .ok (.aload_n 0, 1) := by decide +kernel
theorem dX8_way_17 : decode cX8_way 17 = .ok (.getfield 18, 3) := by decide +kernel
theorem dX8_way_20 : decode cX8_way 20 = .ok (.getfield 114, 3) := by decide +kernel
theorem dX8_way_23 : decode cX8_way 23 = .ok (.isub, 1) := by decide +kernel
theorem dX8_way_24 : decode cX8_way 24 = .ok (.ireturn, 1) := by decide +kernel
theorem dX8_way_25 : decode cX8_way 25 = .ok (.aload_n 0, 1) := by decide +kernel
theorem dX8_way_26 : decode cX8_way 26 = .ok (.getfield 25, 3) := by decide +kernel
theorem dX8_way_29 : decode cX8_way 29 = .ok (.aload_n 0, 1) := by decide +kernel
theorem dX8_way_30 : decode cX8_way 30 = .ok (.getfield 29, 3) := by decide +kernel
theorem dX8_way_33 : decode cX8_way 33 = .ok (.invokevirtual 117, 3) := by decide +kernel
theorem dX8_way_36 : decode cX8_way 36 = .ok (.aload_n 0, 1) := by decide +kernel
theorem dX8_way_37 : decode cX8_way 37 = .ok (.getfield 39, 3) := by decide +kernel
theorem dX8_way_40 : decode cX8_way 40 = .ok (.invokevirtual 121, 3) := by decide +kernel
theorem dX8_way_43 : decode cX8_way 43 = .ok (.aload_n 0, 1) := by decide +kernel
theorem dX8_way_44 : decode cX8_way 44 = .ok (.getfield 25, 3) := by decide +kernel
theorem dX8_way_47 : decode cX8_way 47 = .ok (.getfield 124, 3) := by decide +kernel
theorem dX8_way_50 : decode cX8_way 50 = .ok (.getfield 128, 3) := by decide +kernel
theorem dX8_way_53 : decode cX8_way 53 = .ok (.ireturn, 1) := by decide +kernel
theorem dX8_fault_0 : decode cX8_fault 0 = .ok (.aload_n 0, 1) := by decide +kernel
theorem dX8_fault_1 : decode cX8_fault 1 = .ok (.getfield 18, 3) := by decide +kernel
theorem dX8_fault_4 : decode cX8_fault 4 = .ok (.getfield 131, 3) := by decide +kernel
theorem dX8_fault_7 : decode cX8_fault 7 = .ok (.ireturn, 1) := by decide +kernel
theorem dX8_go_0 : decode cX8_go 0 = .ok (.aload_n 0, 1) := by decide +kernel
theorem dX8_go_1 : decode cX8_go 1 = .ok (.getfield 25, 3) := by decide +kernel
theorem dX8_go_4 : decode cX8_go 4 = .ok (.getfield 134, 3) := by decide +kernel
theorem dX8_go_7 : decode cX8_go 7 = .ok (.ifCond .eq 20, 3) := by decide +kernel
theorem dX8_go_10 : decode cX8_go 10 = .ok (.aload_n 0, 1) := by decide +kernel
theorem dX8_go_11 : decode cX8_go 11 = .ok (.getfield 25, 3) := by decide +kernel
theorem dX8_go_14 : decode cX8_go 14 = .ok (.getfield 137, 3) := by decide +kernel
theorem dX8_go_17 : decode cX8_go 17 = .ok (.aload_n 0, 1) := by decide +kernel
theorem dX8_go_18 : decode cX8_go 18 = .ok (.getfield 25, 3) := by decide +kernel
theorem dX8_go_21 : decode cX8_go 21 = .ok (.getfield 140, 3) := by decide +kernel
theorem dX8_go_24 : decode cX8_go 24 = .ok (.if_icmp .lt 6, 3) := by decide +kernel
theorem dX8_go_27 : decode cX8_go 27 = .ok (.ldc 143, 2) := by decide +kernel
theorem dX8_go_29 : decode cX8_go 29 = .ok (.ireturn, 1) := by decide +kernel
theorem dX8_go_30 : decode cX8_go 30 = .ok (.aload_n 0, 1) := by decide +kernel
theorem dX8_go_31 : decode cX8_go 31 = .ok (.getfield 39, 3) := by decide +kernel
theorem dX8_go_34 : decode cX8_go 34 = .ok (.aload_n 0, 1) := by decide +kernel
theorem dX8_go_35 : decode cX8_go 35 = .ok (.getfield 25, 3) := by decide +kernel
theorem dX8_go_38 : decode cX8_go 38 = .ok (.invokevirtual 144, 3) := by decide +kernel
theorem dX8_go_41 : decode cX8_go 41 = .ok (.aload_n 0, 1) := by decide +kernel
theorem dX8_go_42 : decode cX8_go 42 = .ok (.getfield 25, 3) := by decide +kernel
theorem dX8_go_45 : decode cX8_go 45 = .ok (.aload_n 0, 1) := by decide +kernel
theorem dX8_go_46 : decode cX8_go 46 = .ok (.getfield 25, 3) := by decide +kernel
theorem dX8_go_49 : decode cX8_go 49 = .ok (.getfield 124, 3) := by decide +kernel
theorem dX8_go_52 : decode cX8_go 52 = .ok (.aload_n 0, 1) := by decide +kernel
theorem dX8_go_53 : decode cX8_go 53 = .ok (.getfield 25, 3) := by decide +kernel
theorem dX8_go_56 : decode cX8_go 56 = .ok (.getfield 137, 3) := by decide +kernel
theorem dX8_go_59 : decode cX8_go 59 = .ok (.aload_n 0, 1) := by decide +kernel
theorem dX8_go_60 : decode cX8_go 60 = .ok (.getfield 25, 3) := by decide +kernel
theorem dX8_go_63 : decode cX8_go 63 = .ok (.getfield 147, 3) := by decide +kernel
theorem dX8_go_66 : decode cX8_go 66 = .ok (.aload_n 0, 1) := by decide +kernel
theorem dX8_go_67 : decode cX8_go 67 = .ok (.getfield 25, 3) := by decide +kernel
theorem dX8_go_70 : decode cX8_go 70 = .ok (.getfield 150, 3) := by decide +kernel
theorem dX8_go_73 : decode cX8_go 73 = .ok (.invokevirtual 153, 3) := by decide +kernel
theorem dX8_go_76 : decode cX8_go 76 = .ok (.aload_n 0, 1) := by decide +kernel
theorem dX8_go_77 : decode cX8_go 77 = .ok (.getfield 25, 3) := by decide +kernel
theorem dX8_go_80 : decode cX8_go 80 = .ok (.dup, 1) := by decide +kernel
theorem dX8_go_81 : decode cX8_go 81 = .ok (.getfield 137, 3) := by decide +kernel
theorem dX8_go_84 : decode cX8_go 84 = .ok (.iconst 1, 1) := by decide +kernel
theorem dX8_go_85 : decode cX8_go 85 = .ok (.iadd, 1) := by decide +kernel
theorem dX8_go_86 : decode cX8_go 86 = .ok (.putfield 137, 3) := by decide +kernel
theorem dX8_go_89 : decode cX8_go 89 = .ok (.aload_n 0, 1) := by decide +kernel
theorem dX8_go_90 : decode cX8_go 90 = .ok (.getfield 25, 3) := by decide +kernel
