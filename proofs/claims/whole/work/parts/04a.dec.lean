theorem dX0_init_0 : decode cX0_init 0 = .ok (.aload_n 0, 1) := by decide +kernel
theorem dX0_init_1 : decode cX0_init 1 = .ok (.invokespecial 3, 3) := by decide +kernel
theorem dX0_init_4 : decode cX0_init 4 = .ok (.aload_n 0, 1) := by decide +kernel
theorem dX0_init_5 : decode cX0_init 5 = .ok (.iconst 0, 1) := by decide +kernel
theorem dX0_init_6 : decode cX0_init 6 = .ok (.putfield 9, 3) := by decide +kernel
theorem dX0_init_9 : decode cX0_init 9 = .ok (.aload_n 0, 1) := by decide +kernel
theorem dX0_init_10 : decode cX0_init 10 = .ok (.new 15, 3) := by decide +kernel
theorem dX0_init_13 : decode cX0_init 13 = .ok (.dup, 1) := by decide +kernel
theorem dX0_init_14 : decode cX0_init 14 = .ok (.invokespecial 17, 3) := by decide +kernel
theorem dX0_init_17 : decode cX0_init 17 = .ok (.putfield 18, 3) := by decide +kernel
theorem dX0_init_20 : decode cX0_init 20 = .ok (.aload_n 0, 1) := by decide +kernel
theorem dX0_init_21 : decode cX0_init 21 = .ok (.new 22, 3) := by decide +kernel
theorem dX0_init_24 : decode cX0_init 24 = .ok (.dup, 1) := by decide +kernel
theorem dX0_init_25 : decode cX0_init 25 = .ok (.invokespecial 24, 3) := by decide +kernel
theorem dX0_init_28 : decode cX0_init 28 = .ok (.putfield 25, 3) := by decide +kernel
theorem dX0_init_31 : decode cX0_init 31 = .ok (.return_, 1) := by decide +kernel
theorem dX1_init_0 : decode cX1_init 0 = .ok (.aload_n 0, 1) := by decide +kernel
theorem dX1_init_1 : decode cX1_init 1 = .ok (.invokespecial 1, 3) := by decide +kernel
theorem dX1_init_4 : decode cX1_init 4 = .ok (.return_, 1) := by decide +kernel
theorem dX1_setWithoutCause_0 : decode cX1_setWithoutCause 0 = .ok (.aload_n 0, 1) := by decide +kernel
theorem dX1_setWithoutCause_1 : decode cX1_setWithoutCause 1 = .ok (.iload_n 2, 1) := by decide +kernel
theorem dX1_setWithoutCause_2 : decode cX1_setWithoutCause 2 = .ok (.putfield 7, 3) := by decide +kernel
theorem dX1_setWithoutCause_5 : decode cX1_setWithoutCause 5 = .ok (.aload_n 0, 1) := by decide +kernel
theorem dX1_setWithoutCause_6 : decode cX1_setWithoutCause 6 = .ok (.iload_n 1, 1) := by decide +kernel
theorem dX1_setWithoutCause_7 : decode cX1_setWithoutCause 7 = .ok (.putfield 13, 3) := by decide +kernel
theorem dX1_setWithoutCause_10 : decode cX1_setWithoutCause 10 = .ok (.aload_n 0, 1) := by decide +kernel
theorem dX1_setWithoutCause_11 : decode cX1_setWithoutCause 11 = .ok (.iload_n 2, 1) := by decide +kernel
theorem dX1_setWithoutCause_12 : decode cX1_setWithoutCause 12 = .ok (.putfield 17, 3) := by decide +kernel
theorem dX1_setWithoutCause_15 : decode cX1_setWithoutCause 15 = .ok (.aload_n 0, 1) := by decide +kernel
theorem dX1_setWithoutCause_16 : decode cX1_setWithoutCause 16 = .ok (.iconst 0, 1) := by decide +kernel
theorem dX1_setWithoutCause_17 : decode cX1_setWithoutCause 17 = .ok (.putfield 20, 3) := by decide +kernel
theorem dX1_setWithoutCause_20 : decode cX1_setWithoutCause 20 = .ok (.return_, 1) := by decide +kernel
theorem dX1_setCausedBy_0 : decode cX1_setCausedBy 0 = .ok (.aload_n 0, 1) := by decide +kernel
theorem dX1_setCausedBy_1 : decode cX1_setCausedBy 1 = .ok (.iload_n 2, 1) := by decide +kernel
theorem dX1_setCausedBy_2 : decode cX1_setCausedBy 2 = .ok (.putfield 7, 3) := by decide +kernel
theorem dX1_setCausedBy_5 : decode cX1_setCausedBy 5 = .ok (.aload_n 0, 1) := by decide +kernel
theorem dX1_setCausedBy_6 : decode cX1_setCausedBy 6 = .ok (.aload_n 1, 1) := by decide +kernel
theorem dX1_setCausedBy_7 : decode cX1_setCausedBy 7 = .ok (.getfield 13, 3) := by decide +kernel
theorem dX1_setCausedBy_10 : decode cX1_setCausedBy 10 = .ok (.putfield 13, 3) := by decide +kernel
theorem dX1_setCausedBy_13 : decode cX1_setCausedBy 13 = .ok (.aload_n 0, 1) := by decide +kernel
theorem dX1_setCausedBy_14 : decode cX1_setCausedBy 14 = .ok (.aload_n 1, 1) := by decide +kernel
theorem dX1_setCausedBy_15 : decode cX1_setCausedBy 15 = .ok (.getfield 17, 3) := by decide +kernel
theorem dX1_setCausedBy_18 : decode cX1_setCausedBy 18 = .ok (.putfield 17, 3) := by decide +kernel
theorem dX1_setCausedBy_21 : decode cX1_setCausedBy 21 = .ok (.aload_n 0, 1) := by decide +kernel
theorem dX1_setCausedBy_22 : decode cX1_setCausedBy 22 = .ok (.aload_n 1, 1) := by decide +kernel
theorem dX1_setCausedBy_23 : decode cX1_setCausedBy 23 = .ok (.getfield 20, 3) := by decide +kernel
theorem dX1_setCausedBy_26 : decode cX1_setCausedBy 26 = .ok (.iconst 1, 1) := by decide +kernel
theorem dX1_setCausedBy_27 : decode cX1_setCausedBy 27 = .ok (.iadd, 1) := by decide +kernel
theorem dX1_setCausedBy_28 : decode cX1_setCausedBy 28 = .ok (.putfield 20, 3) := by decide +kernel
theorem dX1_setCausedBy_31 : decode cX1_setCausedBy 31 = .ok (.return_, 1) := by decide +kernel
theorem dX2_init_0 : decode cX2_init 0 = .ok (.aload_n 0, 1) := by decide +kernel
theorem dX2_init_1 : decode cX2_init 1 = .ok (.invokespecial 3, 3) := by decide +kernel
theorem dX2_init_4 : decode cX2_init 4 = .ok (.aload_n 0, 1) := by decide +kernel
theorem dX2_init_5 : decode cX2_init 5 = .ok (.bipush 10, 2) := by decide +kernel
theorem dX2_init_7 : decode cX2_init 7 = .ok (.newarray .int, 2) := by decide +kernel
theorem dX2_init_9 : decode cX2_init 9 = .ok (.putfield 11, 3) := by decide +kernel
theorem dX2_init_12 : decode cX2_init 12 = .ok (.return_, 1) := by decide +kernel
theorem dX2_roomLeft_0 : decode cX2_roomLeft 0 = .ok (.aload_n 0, 1) := by decide +kernel
theorem dX2_roomLeft_1 : decode cX2_roomLeft 1 = .ok (.getfield 15, 3) := by decide +kernel
theorem dX2_roomLeft_4 : decode cX2_roomLeft 4 = .ok (.aload_n 0, 1) := by decide +kernel
theorem dX2_roomLeft_5 : decode cX2_roomLeft 5 = .ok (.getfield 19, 3) := by decide +kernel
theorem dX2_roomLeft_8 : decode cX2_roomLeft 8 = .ok (.isub, 1) := by decide +kernel
theorem dX2_roomLeft_9 : decode cX2_roomLeft 9 = .ok (.ireturn, 1) := by decide +kernel
theorem dX2_take_0 : decode cX2_take 0 = .ok (.aload_n 0, 1) := by decide +kernel
theorem dX2_take_1 : decode cX2_take 1 = .ok (.dup, 1) := by decide +kernel
theorem dX2_take_2 : decode cX2_take 2 = .ok (.getfield 19, 3) := by decide +kernel
theorem dX2_take_5 : decode cX2_take 5 = .ok (.iload_n 1, 1) := by decide +kernel
theorem dX2_take_6 : decode cX2_take 6 = .ok (.iadd, 1) := by decide +kernel
theorem dX2_take_7 : decode cX2_take 7 = .ok (.putfield 19, 3) := by decide +kernel
theorem dX2_take_10 : decode cX2_take 10 = .ok (.aload_n 0, 1) := by decide +kernel
theorem dX2_take_11 : decode cX2_take 11 = .ok (.getfield 11, 3) := by decide +kernel
theorem dX2_take_14 : decode cX2_take 14 = .ok (.iload_n 2, 1) := by decide +kernel
theorem dX2_take_15 : decode cX2_take 15 = .ok (.bipush 10, 2) := by decide +kernel
theorem dX2_take_17 : decode cX2_take 17 = .ok (.invokestatic 22, 3) := by decide +kernel
theorem dX2_take_20 : decode cX2_take 20 = .ok (.dup2, 1) := by decide +kernel
theorem dX2_take_21 : decode cX2_take 21 = .ok (.iaload, 1) := by decide +kernel
theorem dX2_take_22 : decode cX2_take 22 = .ok (.iload_n 1, 1) := by decide +kernel
theorem dX2_take_23 : decode cX2_take 23 = .ok (.iadd, 1) := by decide +kernel
theorem dX2_take_24 : decode cX2_take 24 = .ok (.iastore, 1) := by decide +kernel
theorem dX2_take_25 : decode cX2_take 25 = .ok (.return_, 1) := by decide +kernel
theorem dX2_giveBack_0 : decode cX2_giveBack 0 = .ok (.iload_n 1, 1) := by decide +kernel
theorem dX2_giveBack_1 : decode cX2_giveBack 1 = .ok (.bipush 10, 2) := by decide +kernel
theorem dX2_giveBack_3 : decode cX2_giveBack 3 = .ok (.invokestatic 22, 3) := by decide +kernel
theorem dX2_giveBack_6 : decode cX2_giveBack 6 = .ok (.istore_n 2, 1) := by decide +kernel
theorem dX2_giveBack_7 : decode cX2_giveBack 7 = .ok (.aload_n 0, 1) := by decide +kernel
theorem dX2_giveBack_8 : decode cX2_giveBack 8 = .ok (.dup, 1) := by decide +kernel
theorem dX2_giveBack_9 : decode cX2_giveBack 9 = .ok (.getfield 19, 3) := by decide +kernel
theorem dX2_giveBack_12 : decode cX2_giveBack 12 = .ok (.aload_n 0, 1) := by decide +kernel
theorem dX2_giveBack_13 : decode cX2_giveBack 13 = .ok (.getfield 11, 3) := by decide +kernel
theorem dX2_giveBack_16 : decode cX2_giveBack 16 = .ok (.iload_n 2, 1) := by decide +kernel
theorem dX2_giveBack_17 : decode cX2_giveBack 17 = .ok (.iaload, 1) := by decide +kernel
theorem dX2_giveBack_18 : decode cX2_giveBack 18 = .ok (.isub, 1) := by decide +kernel
theorem dX2_giveBack_19 : decode cX2_giveBack 19 = .ok (.putfield 19, 3) := by decide +kernel
theorem dX2_giveBack_22 : decode cX2_giveBack 22 = .ok (.aload_n 0, 1) := by decide +kernel
theorem dX2_giveBack_23 : decode cX2_giveBack 23 = .ok (.getfield 11, 3) := by decide +kernel
theorem dX2_giveBack_26 : decode cX2_giveBack 26 = .ok (.iload_n 2, 1) := by decide +kernel
theorem dX2_giveBack_27 : decode cX2_giveBack 27 = .ok (.iconst 0, 1) := by decide +kernel
theorem dX2_giveBack_28 : decode cX2_giveBack 28 = .ok (.iastore, 1) := by decide +kernel
theorem dX2_giveBack_29 : decode cX2_giveBack 29 = .ok (.return_, 1) := by decide +kernel
theorem dX3_init_0 : decode cX3_init 0 = .ok (.aload_n 0, 1) := by decide +kernel
theorem dX3_init_1 : decode cX3_init 1 = .ok (.invokespecial 3, 3) := by decide +kernel
theorem dX3_init_4 : decode cX3_init 4 = .ok (.aload_n 0, 1) := by decide +kernel
theorem dX3_init_5 : decode cX3_init 5 = .ok (.iconst 4, 1) := by decide +kernel
theorem dX3_init_6 : decode cX3_init 6 = .ok (.newarray .int, 2) := by decide +kernel
theorem dX3_init_8 : decode cX3_init 8 = .ok (.putfield 11, 3) := by decide +kernel
theorem dX3_init_11 : decode cX3_init 11 = .ok (.aload_n 0, 1) := by decide +kernel
theorem dX3_init_12 : decode cX3_init 12 = .ok (.iconst 4, 1) := by decide +kernel
theorem dX3_init_13 : decode cX3_init 13 = .ok (.newarray .int, 2) := by decide +kernel
theorem dX3_init_15 : decode cX3_init 15 = .ok (.putfield 15, 3) := by decide +kernel
theorem dX3_init_18 : decode cX3_init 18 = .ok (.aload_n 0, 1) := by decide +kernel
theorem dX3_init_19 : decode cX3_init 19 = .ok (.iconst 4, 1) := by decide +kernel
theorem dX3_init_20 : decode cX3_init 20 = .ok (.newarray .int, 2) := by decide +kernel
theorem dX3_init_22 : decode cX3_init 22 = .ok (.putfield 18, 3) := by decide +kernel
theorem dX3_init_25 : decode cX3_init 25 = .ok (.aload_n 0, 1) := by decide +kernel
theorem dX3_init_26 : decode cX3_init 26 = .ok (.iconst 4, 1) := by decide +kernel
theorem dX3_init_27 : decode cX3_init 27 = .ok (.newarray .int, 2) := by decide +kernel
theorem dX3_init_29 : decode cX3_init 29 = .ok (.putfield 21, 3) := by decide +kernel
theorem dX3_init_32 : decode cX3_init 32 = .ok (.return_, 1) := by decide +kernel
theorem dX3_find_0 : decode cX3_find 0 = .ok (.iconst 0, 1) := by decide +kernel
theorem dX3_find_1 : decode cX3_find 1 = .ok (.istore 4, 2) := by decide +kernel
theorem dX3_find_3 : decode cX3_find 3 = .ok (.iload 4, 2) := by decide +kernel
theorem dX3_find_5 : decode cX3_find 5 = .ok (.aload_n 0, 1) := by decide +kernel
theorem dX3_find_6 : decode cX3_find 6 = .ok (.getfield 24, 3) := by decide +kernel
theorem dX3_find_9 : decode cX3_find 9 = .ok (.if_icmp .ge 50, 3) := by decide +kernel
theorem dX3_find_12 : decode cX3_find 12 = .ok (.aload_n 0, 1) := by decide +kernel
theorem dX3_find_13 : decode cX3_find 13 = .ok (.getfield 11, 3) := by decide +kernel
theorem dX3_find_16 : decode cX3_find 16 = .ok (.iload 4, 2) := by decide +kernel
theorem dX3_find_18 : decode cX3_find 18 = .ok (.iaload, 1) := by decide +kernel
theorem dX3_find_19 : decode cX3_find 19 = .ok (.iload_n 1, 1) := by decide +kernel
theorem dX3_find_20 : decode cX3_find 20 = .ok (.if_icmp .ne 33, 3) := by decide +kernel
theorem dX3_find_23 : decode cX3_find 23 = .ok (.aload_n 0, 1) := by decide +kernel
theorem dX3_find_24 : decode cX3_find 24 = .ok (.getfield 15, 3) := by decide +kernel
theorem dX3_find_27 : decode cX3_find 27 = .ok (.iload 4, 2) := by decide +kernel
theorem dX3_find_29 : decode cX3_find 29 = .ok (.iaload, 1) := by decide +kernel
theorem dX3_find_30 : decode cX3_find 30 = .ok (.iload_n 2, 1) := by decide +kernel
theorem dX3_find_31 : decode cX3_find 31 = .ok (.if_icmp .ne 22, 3) := by decide +kernel
theorem dX3_find_34 : decode cX3_find 34 = .ok (.aload_n 0, 1) := by decide +kernel
theorem dX3_find_35 : decode cX3_find 35 = .ok (.getfield 18, 3) := by decide +kernel
theorem dX3_find_38 : decode cX3_find 38 = .ok (.iload 4, 2) := by decide +kernel
theorem dX3_find_40 : decode cX3_find 40 = .ok (.iaload, 1) := by decide +kernel
theorem dX3_find_41 : decode cX3_find 41 = .ok (.iload_n 3, 1) := by decide +kernel
theorem dX3_find_42 : decode cX3_find 42 = .ok (.if_icmp .ne 11, 3) := by decide +kernel
theorem dX3_find_45 : decode cX3_find 45 = .ok (.aload_n 0, 1) := by decide +kernel
theorem dX3_find_46 : decode cX3_find 46 = .ok (.getfield 21, 3) := by decide +kernel
theorem dX3_find_49 : decode cX3_find 49 = .ok (.iload 4, 2) := by decide +kernel
theorem dX3_find_51 : decode cX3_find 51 = .ok (.iaload, 1) := by decide +kernel
theorem dX3_find_52 : decode cX3_find 52 = .ok (.ireturn, 1) := by decide +kernel
theorem dX3_find_53 : decode cX3_find 53 = .ok (.iinc 4 1, 3) := by decide +kernel
theorem dX3_find_56 : decode cX3_find 56 = .ok (.goto (-53), 3) := by decide +kernel
theorem dX3_find_59 : decode cX3_find 59 = .ok (.iconst (-1), 1) := by decide +kernel
theorem dX3_find_60 : decode cX3_find 60 = .ok (.ireturn, 1) := by decide +kernel
theorem dX3_keep_0 : decode cX3_keep 0 = .ok (.aload_n 0, 1) := by decide +kernel
theorem dX3_keep_1 : decode cX3_keep 1 = .ok (.getfield 11, 3) := by decide +kernel
theorem dX3_keep_4 : decode cX3_keep 4 = .ok (.aload_n 0, 1) := by decide +kernel
theorem dX3_keep_5 : decode cX3_keep 5 = .ok (.getfield 28, 3) := by decide +kernel
theorem dX3_keep_8 : decode cX3_keep 8 = .ok (.iload_n 1, 1) := by decide +kernel
theorem dX3_keep_9 : decode cX3_keep 9 = .ok (.iastore, 1) := by decide +kernel
theorem dX3_keep_10 : decode cX3_keep 10 = .ok (.aload_n 0, 1) := by decide +kernel
theorem dX3_keep_11 : decode cX3_keep 11 = .ok (.getfield 15, 3) := by decide +kernel
theorem dX3_keep_14 : decode cX3_keep 14 = .ok (.aload_n 0, 1) := by decide +kernel
theorem dX3_keep_15 : decode cX3_keep 15 = .ok (.getfield 28, 3) := by decide +kernel
theorem dX3_keep_18 : decode cX3_keep 18 = .ok (.iload_n 2, 1) := by decide +kernel
theorem dX3_keep_19 : decode cX3_keep 19 = .ok (.iastore, 1) := by decide +kernel
theorem dX3_keep_20 : decode cX3_keep 20 = .ok (.aload_n 0, 1) := by decide +kernel
theorem dX3_keep_21 : decode cX3_keep 21 = .ok (.getfield 18, 3) := by decide +kernel
theorem dX3_keep_24 : decode cX3_keep 24 = .ok (.aload_n 0, 1) := by decide +kernel
theorem dX3_keep_25 : decode cX3_keep 25 = .ok (.getfield 28, 3) := by decide +kernel
theorem dX3_keep_28 : decode cX3_keep 28 = .ok (.iload_n 3, 1) := by decide +kernel
theorem dX3_keep_29 : decode cX3_keep 29 = .ok (.iastore, 1) := by decide +kernel
theorem dX3_keep_30 : decode cX3_keep 30 = .ok (.aload_n 0, 1) := by decide +kernel
theorem dX3_keep_31 : decode cX3_keep 31 = .ok (.getfield 21, 3) := by decide +kernel
theorem dX3_keep_34 : decode cX3_keep 34 = .ok (.aload_n 0, 1) := by decide +kernel
theorem dX3_keep_35 : decode cX3_keep 35 = .ok (.getfield 28, 3) := by decide +kernel
theorem dX3_keep_38 : decode cX3_keep 38 = .ok (.iload 4, 2) := by decide +kernel
theorem dX3_keep_40 : decode cX3_keep 40 = .ok (.iastore, 1) := by decide +kernel
theorem dX3_keep_41 : decode cX3_keep 41 = .ok (.aload_n 0, 1) := by decide +kernel
theorem dX3_keep_42 : decode cX3_keep 42 = .ok (.aload_n 0, 1) := by decide +kernel
theorem dX3_keep_43 : decode cX3_keep 43 = .ok (.getfield 28, 3) := by decide +kernel
theorem dX3_keep_46 : decode cX3_keep 46 = .ok (.iconst 1, 1) := by decide +kernel
theorem dX3_keep_47 : decode cX3_keep 47 = .ok (.iadd, 1) := by decide +kernel
theorem dX3_keep_48 : decode cX3_keep 48 = .ok (.iconst 4, 1) := by decide +kernel
theorem dX3_keep_49 : decode cX3_keep 49 = .ok (.if_icmp .ge 12, 3) := by decide +kernel
theorem dX3_keep_52 : decode cX3_keep 52 = .ok (.aload_n 0, 1) := by decide +kernel
theorem dX3_keep_53 : decode cX3_keep 53 = .ok (.getfield 28, 3) := by decide +kernel
theorem dX3_keep_56 : decode cX3_keep 56 = .ok (.iconst 1, 1) := by decide +kernel
theorem dX3_keep_57 : decode cX3_keep 57 = .ok (.iadd, 1) := by decide +kernel
theorem dX3_keep_58 : decode cX3_keep 58 = .ok (.goto 4, 3) := by decide +kernel
theorem dX3_keep_61 : decode cX3_keep 61 = .ok (.iconst 0, 1) := by decide +kernel
theorem dX3_keep_62 : decode cX3_keep 62 = .ok (.putfield 28, 3) := by decide +kernel
theorem dX3_keep_65 : decode cX3_keep 65 = .ok (.aload_n 0, 1) := by decide +kernel
theorem dX3_keep_66 : decode cX3_keep 66 = .ok (.getfield 24, 3) := by decide +kernel
theorem dX3_keep_69 : decode cX3_keep 69 = .ok (.iconst 4, 1) := by decide +kernel
theorem dX3_keep_70 : decode cX3_keep 70 = .ok (.if_icmp .ge 13, 3) := by decide +kernel
theorem dX3_keep_73 : decode cX3_keep 73 = .ok (.aload_n 0, 1) := by decide +kernel
theorem dX3_keep_74 : decode cX3_keep 74 = .ok (.dup, 1) := by decide +kernel
theorem dX3_keep_75 : decode cX3_keep 75 = .ok (.getfield 24, 3) := by decide +kernel
theorem dX3_keep_78 : decode cX3_keep 78 = .ok (.iconst 1, 1) := by decide +kernel
theorem dX3_keep_79 : decode cX3_keep 79 = .ok (.iadd, 1) := by decide +kernel
theorem dX3_keep_80 : decode cX3_keep 80 = .ok (.putfield 24, 3) := by decide +kernel
theorem dX3_keep_83 : decode cX3_keep 83 = .ok (.return_, 1) := by decide +kernel
theorem dX4_init_0 : decode cX4_init 0 = .ok (.aload_n 0, 1) := by decide +kernel
theorem dX4_init_1 : decode cX4_init 1 = .ok (.invokespecial 1, 3) := by decide +kernel
theorem dX4_init_4 : decode cX4_init 4 = .ok (.aload_n 0, 1) := by decide +kernel
theorem dX4_init_5 : decode cX4_init 5 = .ok (.bipush 12, 2) := by decide +kernel
theorem dX4_init_7 : decode cX4_init 7 = .ok (.newarray .int, 2) := by decide +kernel
theorem dX4_init_9 : decode cX4_init 9 = .ok (.putfield 9, 3) := by decide +kernel
theorem dX4_init_12 : decode cX4_init 12 = .ok (.aload_n 0, 1) := by decide +kernel
theorem dX4_init_13 : decode cX4_init 13 = .ok (.bipush 12, 2) := by decide +kernel
theorem dX4_init_15 : decode cX4_init 15 = .ok (.newarray .int, 2) := by decide +kernel
theorem dX4_init_17 : decode cX4_init 17 = .ok (.putfield 13, 3) := by decide +kernel
theorem dX4_init_20 : decode cX4_init 20 = .ok (.aload_n 0, 1) := by decide +kernel
theorem dX4_init_21 : decode cX4_init 21 = .ok (.bipush 12, 2) := by decide +kernel
theorem dX4_init_23 : decode cX4_init 23 = .ok (.newarray .int, 2) := by decide +kernel
theorem dX4_init_25 : decode cX4_init 25 = .ok (.putfield 16, 3) := by decide +kernel
theorem dX4_init_28 : decode cX4_init 28 = .ok (.aload_n 0, 1) := by decide +kernel
theorem dX4_init_29 : decode cX4_init 29 = .ok (.bipush 12, 2) := by decide +kernel
theorem dX4_init_31 : decode cX4_init 31 = .ok (.newarray .int, 2) := by decide +kernel
theorem dX4_init_33 : decode cX4_init 33 = .ok (.putfield 19, 3) := by decide +kernel
theorem dX4_init_36 : decode cX4_init 36 = .ok (.aload_n 0, 1) := by decide +kernel
theorem dX4_init_37 : decode cX4_init 37 = .ok (.bipush 11, 2) := by decide +kernel
theorem dX4_init_39 : decode cX4_init 39 = .ok (.anewarray 22, 3) := by decide +kernel
theorem dX4_init_42 : decode cX4_init 42 = .ok (.putfield 24, 3) := by decide +kernel
theorem dX4_init_45 : decode cX4_init 45 = .ok (.aload_n 0, 1) := by decide +kernel
theorem dX4_init_46 : decode cX4_init 46 = .ok (.iconst 3, 1) := by decide +kernel
theorem dX4_init_47 : decode cX4_init 47 = .ok (.anewarray 28, 3) := by decide +kernel
theorem dX4_init_50 : decode cX4_init 50 = .ok (.putfield 30, 3) := by decide +kernel
theorem dX4_init_53 : decode cX4_init 53 = .ok (.aload_n 0, 1) := by decide +kernel
theorem dX4_init_54 : decode cX4_init 54 = .ok (.bipush 20, 2) := by decide +kernel
theorem dX4_init_56 : decode cX4_init 56 = .ok (.newarray .int, 2) := by decide +kernel
theorem dX4_init_58 : decode cX4_init 58 = .ok (.putfield 34, 3) := by decide +kernel
theorem dX4_init_61 : decode cX4_init 61 = .ok (.aload_n 0, 1) := by decide +kernel
theorem dX4_init_62 : decode cX4_init 62 = .ok (.bipush 20, 2) := by decide +kernel
theorem dX4_init_64 : decode cX4_init 64 = .ok (.newarray .int, 2) := by decide +kernel
theorem dX4_init_66 : decode cX4_init 66 = .ok (.putfield 37, 3) := by decide +kernel
theorem dX4_init_69 : decode cX4_init 69 = .ok (.iconst 0, 1) := by decide +kernel
theorem dX4_init_70 : decode cX4_init 70 = .ok (.istore_n 1, 1) := by decide +kernel
theorem dX4_init_71 : decode cX4_init 71 = .ok (.iload_n 1, 1) := by decide +kernel
theorem dX4_init_72 : decode cX4_init 72 = .ok (.bipush 12, 2) := by decide +kernel
theorem dX4_init_74 : decode cX4_init 74 = .ok (.if_icmp .ge 30, 3) := by decide +kernel
theorem dX4_init_77 : decode cX4_init 77 = .ok (.aload_n 0, 1) := by decide +kernel
theorem dX4_init_78 : decode cX4_init 78 = .ok (.getfield 9, 3) := by decide +kernel
theorem dX4_init_81 : decode cX4_init 81 = .ok (.iload_n 1, 1) := by decide +kernel
theorem dX4_init_82 : decode cX4_init 82 = .ok (.iconst (-1), 1) := by decide +kernel
theorem dX4_init_83 : decode cX4_init 83 = .ok (.iastore, 1) := by decide +kernel
theorem dX4_init_84 : decode cX4_init 84 = .ok (.aload_n 0, 1) := by decide +kernel
theorem dX4_init_85 : decode cX4_init 85 = .ok (.getfield 13, 3) := by decide +kernel
theorem dX4_init_88 : decode cX4_init 88 = .ok (.iload_n 1, 1) := by decide +kernel
theorem dX4_init_89 : decode cX4_init 89 = .ok (.iconst (-1), 1) := by decide +kernel
theorem dX4_init_90 : decode cX4_init 90 = .ok (.iastore, 1) := by decide +kernel
theorem dX4_init_91 : decode cX4_init 91 = .ok (.aload_n 0, 1) := by decide +kernel
theorem dX4_init_92 : decode cX4_init 92 = .ok (.getfield 16, 3) := by decide +kernel
theorem dX4_init_95 : decode cX4_init 95 = .ok (.iload_n 1, 1) := by decide +kernel
theorem dX4_init_96 : decode cX4_init 96 = .ok (.iconst (-1), 1) := by decide +kernel
theorem dX4_init_97 : decode cX4_init 97 = .ok (.iastore, 1) := by decide +kernel
theorem dX4_init_98 : decode cX4_init 98 = .ok (.iinc 1 1, 3) := by decide +kernel
theorem dX4_init_101 : decode cX4_init 101 = .ok (.goto (-30), 3) := by decide +kernel
theorem dX4_init_104 : decode cX4_init 104 = .ok (.iconst 0, 1) := by decide +kernel
theorem dX4_init_105 : decode cX4_init 105 = .ok (.istore_n 1, 1) := by decide +kernel
theorem dX4_init_106 : decode cX4_init 106 = .ok (.iload_n 1, 1) := by decide +kernel
theorem dX4_init_107 : decode cX4_init 107 = .ok (.bipush 11, 2) := by decide +kernel
theorem dX4_init_109 : decode cX4_init 109 = .ok (.if_icmp .ge 22, 3) := by decide +kernel
theorem dX4_init_112 : decode cX4_init 112 = .ok (.aload_n 0, 1) := by decide +kernel
theorem dX4_init_113 : decode cX4_init 113 = .ok (.getfield 24, 3) := by decide +kernel
theorem dX4_init_116 : decode cX4_init 116 = .ok (.iload_n 1, 1) := by decide +kernel
theorem dX4_init_117 : decode cX4_init 117 = .ok (.new 22, 3) := by decide +kernel
theorem dX4_init_120 : decode cX4_init 120 = .ok (.dup, 1) := by decide +kernel
theorem dX4_init_121 : decode cX4_init 121 = .ok (.invokespecial 40, 3) := by decide +kernel
theorem dX4_init_124 : decode cX4_init 124 = .ok (.aastore, 1) := by decide +kernel
theorem dX4_init_125 : decode cX4_init 125 = .ok (.iinc 1 1, 3) := by decide +kernel
theorem dX4_init_128 : decode cX4_init 128 = .ok (.goto (-22), 3) := by decide +kernel
theorem dX4_init_131 : decode cX4_init 131 = .ok (.iconst 0, 1) := by decide +kernel
theorem dX4_init_132 : decode cX4_init 132 = .ok (.istore_n 1, 1) := by decide +kernel
theorem dX4_init_133 : decode cX4_init 133 = .ok (.iload_n 1, 1) := by decide +kernel
theorem dX4_init_134 : decode cX4_init 134 = .ok (.iconst 3, 1) := by decide +kernel
theorem dX4_init_135 : decode cX4_init 135 = .ok (.if_icmp .ge 22, 3) := by decide +kernel
theorem dX4_init_138 : decode cX4_init 138 = .ok (.aload_n 0, 1) := by decide +kernel
theorem dX4_init_139 : decode cX4_init 139 = .ok (.getfield 30, 3) := by decide +kernel
theorem dX4_init_142 : decode cX4_init 142 = .ok (.iload_n 1, 1) := by decide +kernel
theorem dX4_init_143 : decode cX4_init 143 = .ok (.new 28, 3) := by decide +kernel
theorem dX4_init_146 : decode cX4_init 146 = .ok (.dup, 1) := by decide +kernel
theorem dX4_init_147 : decode cX4_init 147 = .ok (.invokespecial 41, 3) := by decide +kernel
theorem dX4_init_150 : decode cX4_init 150 = .ok (.aastore, 1) := by decide +kernel
theorem dX4_init_151 : decode cX4_init 151 = .ok (.iinc 1 1, 3) := by decide +kernel
theorem dX4_init_154 : decode cX4_init 154 = .ok (.goto (-21), 3) := by decide +kernel
theorem dX4_init_157 : decode cX4_init 157 = .ok (.return_, 1) := by decide +kernel
theorem dX4_addData_0 : decode cX4_addData 0 = .ok (.iload_n 1, 1) := by decide +kernel
theorem dX4_addData_1 : decode cX4_addData 1 = .ok (.invokestatic 42, 3) := by decide +kernel
theorem dX4_addData_4 : decode cX4_addData 4 = .ok (.ifCond .eq 23, 3) := by decide +kernel
theorem dX4_addData_7 : decode cX4_addData 7 = .ok (.iload_n 2, 1) := by decide +kernel
theorem dX4_addData_8 : decode cX4_addData 8 = .ok (.iconst 0, 1) := by decide +kernel
theorem dX4_addData_9 : decode cX4_addData 9 = .ok (.iconst 3, 1) := by decide +kernel
theorem dX4_addData_10 : decode cX4_addData 10 = .ok (.invokestatic 46, 3) := by decide +kernel
theorem dX4_addData_13 : decode cX4_addData 13 = .ok (.ifCond .eq 14, 3) := by decide +kernel
theorem dX4_addData_16 : decode cX4_addData 16 = .ok (.iload_n 3, 1) := by decide +kernel
theorem dX4_addData_17 : decode cX4_addData 17 = .ok (.iconst 0, 1) := by decide +kernel
theorem dX4_addData_18 : decode cX4_addData 18 = .ok (.sipush 999, 3) := by decide +kernel
theorem dX4_addData_21 : decode cX4_addData 21 = .ok (.invokestatic 46, 3) := by decide +kernel
theorem dX4_addData_24 : decode cX4_addData 24 = .ok (.ifCond .ne 13, 3) := by decide +kernel
theorem dX4_addData_27 : decode cX4_addData 27 = .ok (.new 50, 3) := by decide +kernel
theorem dX4_addData_30 : decode cX4_addData 30 = .ok (.dup, 1) := by decide +kernel
theorem dX4_addData_31 : decode cX4_addData 31 = .ok (.ldc 52, 2) := by decide +kernel
theorem dX4_addData_33 : decode cX4_addData 33 = .ok (.invokespecial 54, 3) := by decide +kernel
theorem dX4_addData_36 : decode cX4_addData 36 = .ok (.athrow, 1) := by decide +kernel
theorem dX4_addData_37 : decode cX4_addData 37 = .ok (.aload_n 0, 1) := by decide +kernel
theorem dX4_addData_38 : decode cX4_addData 38 = .ok (.iload_n 1, 1) := by decide +kernel
theorem dX4_addData_39 : decode cX4_addData 39 = .ok (.invokevirtual 57, 3) := by decide +kernel
theorem dX4_addData_42 : decode cX4_addData 42 = .ok (.ifCond .eq 13, 3) := by decide +kernel
theorem dX4_addData_45 : decode cX4_addData 45 = .ok (.new 60, 3) := by decide +kernel
theorem dX4_addData_48 : decode cX4_addData 48 = .ok (.dup, 1) := by decide +kernel
theorem dX4_addData_49 : decode cX4_addData 49 = .ok (.ldc 62, 2) := by decide +kernel
theorem dX4_addData_51 : decode cX4_addData 51 = .ok (.invokespecial 64, 3) := by decide +kernel
theorem dX4_addData_54 : decode cX4_addData 54 = .ok (.athrow, 1) := by decide +kernel
theorem dX4_addData_55 : decode cX4_addData 55 = .ok (.aload_n 0, 1) := by decide +kernel
theorem dX4_addData_56 : decode cX4_addData 56 = .ok (.getfield 13, 3) := by decide +kernel
theorem dX4_addData_59 : decode cX4_addData 59 = .ok (.iload_n 1, 1) := by decide +kernel
theorem dX4_addData_60 : decode cX4_addData 60 = .ok (.iload_n 2, 1) := by decide +kernel
theorem dX4_addData_61 : decode cX4_addData 61 = .ok (.iastore, 1) := by decide +kernel
theorem dX4_addData_62 : decode cX4_addData 62 = .ok (.aload_n 0, 1) := by decide +kernel
theorem dX4_addData_63 : decode cX4_addData 63 = .ok (.getfield 9, 3) := by decide +kernel
theorem dX4_addData_66 : decode cX4_addData 66 = .ok (.iload_n 1, 1) := by decide +kernel
theorem dX4_addData_67 : decode cX4_addData 67 = .ok (.iload_n 3, 1) := by decide +kernel
theorem dX4_addData_68 : decode cX4_addData 68 = .ok (.iastore, 1) := by decide +kernel
theorem dX4_addData_69 : decode cX4_addData 69 = .ok (.aload_n 0, 1) := by decide +kernel
theorem dX4_addData_70 : decode cX4_addData 70 = .ok (.dup, 1) := by decide +kernel
theorem dX4_addData_71 : decode cX4_addData 71 = .ok (.getfield 65, 3) := by decide +kernel
theorem dX4_addData_74 : decode cX4_addData 74 = .ok (.iconst 1, 1) := by decide +kernel
theorem dX4_addData_75 : decode cX4_addData 75 = .ok (.iadd, 1) := by decide +kernel
theorem dX4_addData_76 : decode cX4_addData 76 = .ok (.putfield 65, 3) := by decide +kernel
theorem dX4_addData_79 : decode cX4_addData 79 = .ok (.aload_n 0, 1) := by decide +kernel
theorem dX4_addData_80 : decode cX4_addData 80 = .ok (.getfield 65, 3) := by decide +kernel
theorem dX4_addData_83 : decode cX4_addData 83 = .ok (.ireturn, 1) := by decide +kernel
theorem dX4_setData_0 : decode cX4_setData 0 = .ok (.iload_n 1, 1) := by decide +kernel
theorem dX4_setData_1 : decode cX4_setData 1 = .ok (.invokestatic 42, 3) := by decide +kernel
theorem dX4_setData_4 : decode cX4_setData 4 = .ok (.ifCond .eq 14, 3) := by decide +kernel
theorem dX4_setData_7 : decode cX4_setData 7 = .ok (.iload_n 2, 1) := by decide +kernel
theorem dX4_setData_8 : decode cX4_setData 8 = .ok (.iconst 0, 1) := by decide +kernel
theorem dX4_setData_9 : decode cX4_setData 9 = .ok (.sipush 999, 3) := by decide +kernel
theorem dX4_setData_12 : decode cX4_setData 12 = .ok (.invokestatic 46, 3) := by decide +kernel
theorem dX4_setData_15 : decode cX4_setData 15 = .ok (.ifCond .ne 13, 3) := by decide +kernel
theorem dX4_setData_18 : decode cX4_setData 18 = .ok (.new 50, 3) := by decide +kernel
theorem dX4_setData_21 : decode cX4_setData 21 = .ok (.dup, 1) := by decide +kernel
theorem dX4_setData_22 : decode cX4_setData 22 = .ok (.ldc 69, 2) := by decide +kernel
theorem dX4_setData_24 : decode cX4_setData 24 = .ok (.invokespecial 54, 3) := by decide +kernel
theorem dX4_setData_27 : decode cX4_setData 27 = .ok (.athrow, 1) := by decide +kernel
theorem dX4_setData_28 : decode cX4_setData 28 = .ok (.aload_n 0, 1) := by decide +kernel
theorem dX4_setData_29 : decode cX4_setData 29 = .ok (.iload_n 1, 1) := by decide +kernel
theorem dX4_setData_30 : decode cX4_setData 30 = .ok (.invokevirtual 71, 3) := by decide +kernel
theorem dX4_setData_33 : decode cX4_setData 33 = .ok (.aload_n 0, 1) := by decide +kernel
theorem dX4_setData_34 : decode cX4_setData 34 = .ok (.getfield 9, 3) := by decide +kernel
theorem dX4_setData_37 : decode cX4_setData 37 = .ok (.iload_n 1, 1) := by decide +kernel
theorem dX4_setData_38 : decode cX4_setData 38 = .ok (.iaload, 1) := by decide +kernel
theorem dX4_setData_39 : decode cX4_setData 39 = .ok (.istore_n 3, 1) := by decide +kernel
theorem dX4_setData_40 : decode cX4_setData 40 = .ok (.aload_n 0, 1) := by decide +kernel
theorem dX4_setData_41 : decode cX4_setData 41 = .ok (.getfield 9, 3) := by decide +kernel
theorem dX4_setData_44 : decode cX4_setData 44 = .ok (.iload_n 1, 1) := by decide +kernel
theorem dX4_setData_45 : decode cX4_setData 45 = .ok (.iload_n 2, 1) := by decide +kernel
theorem dX4_setData_46 : decode cX4_setData 46 = .ok (.iastore, 1) := by decide +kernel
theorem dX4_setData_47 : decode cX4_setData 47 = .ok (.iload_n 3, 1) := by decide +kernel
theorem dX4_setData_48 : decode cX4_setData 48 = .ok (.ireturn, 1) := by decide +kernel
theorem dX4_loseData_0 : decode cX4_loseData 0 = .ok (.iload_n 1, 1) := by decide +kernel
theorem dX4_loseData_1 : decode cX4_loseData 1 = .ok (.invokestatic 75, 3) := by decide +kernel
theorem dX4_loseData_4 : decode cX4_loseData 4 = .ok (.aload_n 0, 1) := by decide +kernel
theorem dX4_loseData_5 : decode cX4_loseData 5 = .ok (.iload_n 1, 1) := by decide +kernel
theorem dX4_loseData_6 : decode cX4_loseData 6 = .ok (.invokevirtual 71, 3) := by decide +kernel
theorem dX4_loseData_9 : decode cX4_loseData 9 = .ok (.aload_n 0, 1) := by decide +kernel
theorem dX4_loseData_10 : decode cX4_loseData 10 = .ok (.getfield 9, 3) := by decide +kernel
theorem dX4_loseData_13 : decode cX4_loseData 13 = .ok (.iload_n 1, 1) := by decide +kernel
theorem dX4_loseData_14 : decode cX4_loseData 14 = .ok (.iaload, 1) := by decide +kernel
theorem dX4_loseData_15 : decode cX4_loseData 15 = .ok (.istore_n 2, 1) := by decide +kernel
theorem dX4_loseData_16 : decode cX4_loseData 16 = .ok (.iload_n 2, 1) := by decide +kernel
theorem dX4_loseData_17 : decode cX4_loseData 17 = .ok (.iconst (-1), 1) := by decide +kernel
theorem dX4_loseData_18 : decode cX4_loseData 18 = .ok (.if_icmp .ne 13, 3) := by decide +kernel
theorem dX4_loseData_21 : decode cX4_loseData 21 = .ok (.new 60, 3) := by decide +kernel
theorem dX4_loseData_24 : decode cX4_loseData 24 = .ok (.dup, 1) := by decide +kernel
theorem dX4_loseData_25 : decode cX4_loseData 25 = .ok (.ldc 78, 2) := by decide +kernel
theorem dX4_loseData_27 : decode cX4_loseData 27 = .ok (.invokespecial 64, 3) := by decide +kernel
theorem dX4_loseData_30 : decode cX4_loseData 30 = .ok (.athrow, 1) := by decide +kernel
theorem dX4_loseData_31 : decode cX4_loseData 31 = .ok (.aload_n 0, 1) := by decide +kernel
theorem dX4_loseData_32 : decode cX4_loseData 32 = .ok (.getfield 9, 3) := by decide +kernel
theorem dX4_loseData_35 : decode cX4_loseData 35 = .ok (.iload_n 1, 1) := by decide +kernel
theorem dX4_loseData_36 : decode cX4_loseData 36 = .ok (.iconst (-1), 1) := by decide +kernel
theorem dX4_loseData_37 : decode cX4_loseData 37 = .ok (.iastore, 1) := by decide +kernel
theorem dX4_loseData_38 : decode cX4_loseData 38 = .ok (.iload_n 2, 1) := by decide +kernel
theorem dX4_loseData_39 : decode cX4_loseData 39 = .ok (.ireturn, 1) := by decide +kernel
theorem dX4_addCell_0 : decode cX4_addCell 0 = .ok (.iload_n 1, 1) := by decide +kernel
theorem dX4_addCell_1 : decode cX4_addCell 1 = .ok (.invokestatic 80, 3) := by decide +kernel
theorem dX4_addCell_4 : decode cX4_addCell 4 = .ok (.ifCond .eq 62, 3) := by decide +kernel
theorem dX4_addCell_7 : decode cX4_addCell 7 = .ok (.iload_n 2, 1) := by decide +kernel
theorem dX4_addCell_8 : decode cX4_addCell 8 = .ok (.invokestatic 42, 3) := by decide +kernel
theorem dX4_addCell_11 : decode cX4_addCell 11 = .ok (.ifCond .eq 55, 3) := by decide +kernel
theorem dX4_addCell_14 : decode cX4_addCell 14 = .ok (.iload_n 3, 1) := by decide +kernel
theorem dX4_addCell_15 : decode cX4_addCell 15 = .ok (.iconst (-1), 1) := by decide +kernel
theorem dX4_addCell_16 : decode cX4_addCell 16 = .ok (.if_icmp .eq 10, 3) := by decide +kernel
theorem dX4_addCell_19 : decode cX4_addCell 19 = .ok (.iload_n 3, 1) := by decide +kernel
theorem dX4_addCell_20 : decode cX4_addCell 20 = .ok (.invokestatic 42, 3) := by decide +kernel
theorem dX4_addCell_23 : decode cX4_addCell 23 = .ok (.ifCond .eq 43, 3) := by decide +kernel
theorem dX4_addCell_26 : decode cX4_addCell 26 = .ok (.iload 4, 2) := by decide +kernel
theorem dX4_addCell_28 : decode cX4_addCell 28 = .ok (.iconst 0, 1) := by decide +kernel
theorem dX4_addCell_29 : decode cX4_addCell 29 = .ok (.bipush 99, 2) := by decide +kernel
theorem dX4_addCell_31 : decode cX4_addCell 31 = .ok (.invokestatic 46, 3) := by decide +kernel
theorem dX4_addCell_34 : decode cX4_addCell 34 = .ok (.ifCond .eq 32, 3) := by decide +kernel
theorem dX4_addCell_37 : decode cX4_addCell 37 = .ok (.iload 5, 2) := by decide +kernel
theorem dX4_addCell_39 : decode cX4_addCell 39 = .ok (.invokestatic 42, 3) := by decide +kernel
theorem dX4_addCell_42 : decode cX4_addCell 42 = .ok (.ifCond .eq 24, 3) := by decide +kernel
theorem dX4_addCell_45 : decode cX4_addCell 45 = .ok (.iload 6, 2) := by decide +kernel
theorem dX4_addCell_47 : decode cX4_addCell 47 = .ok (.iconst 1, 1) := by decide +kernel
theorem dX4_addCell_48 : decode cX4_addCell 48 = .ok (.iconst 5, 1) := by decide +kernel
theorem dX4_addCell_49 : decode cX4_addCell 49 = .ok (.invokestatic 46, 3) := by decide +kernel
theorem dX4_addCell_52 : decode cX4_addCell 52 = .ok (.ifCond .eq 14, 3) := by decide +kernel
theorem dX4_addCell_55 : decode cX4_addCell 55 = .ok (.iload 7, 2) := by decide +kernel
theorem dX4_addCell_57 : decode cX4_addCell 57 = .ok (.iconst 1, 1) := by decide +kernel
theorem dX4_addCell_58 : decode cX4_addCell 58 = .ok (.bipush 9, 2) := by decide +kernel
theorem dX4_addCell_60 : decode cX4_addCell 60 = .ok (.invokestatic 46, 3) := by decide +kernel
theorem dX4_addCell_63 : decode cX4_addCell 63 = .ok (.ifCond .ne 13, 3) := by decide +kernel
theorem dX4_addCell_66 : decode cX4_addCell 66 = .ok (.new 50, 3) := by decide +kernel
theorem dX4_addCell_69 : decode cX4_addCell 69 = .ok (.dup, 1) := by decide +kernel
theorem dX4_addCell_70 : decode cX4_addCell 70 = .ok (.ldc 84, 2) := by decide +kernel
theorem dX4_addCell_72 : decode cX4_addCell 72 = .ok (.invokespecial 54, 3) := by decide +kernel
theorem dX4_addCell_75 : decode cX4_addCell 75 = .ok (.athrow, 1) := by decide +kernel
theorem dX4_addCell_76 : decode cX4_addCell 76 = .ok (.aload_n 0, 1) := by decide +kernel
theorem dX4_addCell_77 : decode cX4_addCell 77 = .ok (.iload_n 2, 1) := by decide +kernel
theorem dX4_addCell_78 : decode cX4_addCell 78 = .ok (.invokevirtual 57, 3) := by decide +kernel
theorem dX4_addCell_81 : decode cX4_addCell 81 = .ok (.ifCond .eq 25, 3) := by decide +kernel
theorem dX4_addCell_84 : decode cX4_addCell 84 = .ok (.iload_n 3, 1) := by decide +kernel
theorem dX4_addCell_85 : decode cX4_addCell 85 = .ok (.iconst (-1), 1) := by decide +kernel
theorem dX4_addCell_86 : decode cX4_addCell 86 = .ok (.if_icmp .eq 11, 3) := by decide +kernel
theorem dX4_addCell_89 : decode cX4_addCell 89 = .ok (.aload_n 0, 1) := by decide +kernel
theorem dX4_addCell_90 : decode cX4_addCell 90 = .ok (.iload_n 3, 1) := by decide +kernel
theorem dX4_addCell_91 : decode cX4_addCell 91 = .ok (.invokevirtual 57, 3) := by decide +kernel
theorem dX4_addCell_94 : decode cX4_addCell 94 = .ok (.ifCond .eq 12, 3) := by decide +kernel
theorem dX4_addCell_97 : decode cX4_addCell 97 = .ok (.aload_n 0, 1) := by decide +kernel
theorem dX4_addCell_98 : decode cX4_addCell 98 = .ok (.iload 5, 2) := by decide +kernel
theorem dX4_addCell_100 : decode cX4_addCell 100 = .ok (.invokevirtual 57, 3) := by decide +kernel
theorem dX4_addCell_103 : decode cX4_addCell 103 = .ok (.ifCond .eq 13, 3) := by decide +kernel
theorem dX4_addCell_106 : decode cX4_addCell 106 = .ok (.new 86, 3) := by decide +kernel
theorem dX4_addCell_109 : decode cX4_addCell 109 = .ok (.dup, 1) := by decide +kernel
theorem dX4_addCell_110 : decode cX4_addCell 110 = .ok (.ldc 88, 2) := by decide +kernel
theorem dX4_addCell_112 : decode cX4_addCell 112 = .ok (.invokespecial 90, 3) := by decide +kernel
theorem dX4_addCell_115 : decode cX4_addCell 115 = .ok (.athrow, 1) := by decide +kernel
theorem dX4_addCell_116 : decode cX4_addCell 116 = .ok (.aload_n 0, 1) := by decide +kernel
theorem dX4_addCell_117 : decode cX4_addCell 117 = .ok (.getfield 91, 3) := by decide +kernel
theorem dX4_addCell_120 : decode cX4_addCell 120 = .ok (.bipush 11, 2) := by decide +kernel
theorem dX4_addCell_122 : decode cX4_addCell 122 = .ok (.if_icmp .lt 13, 3) := by decide +kernel
theorem dX4_addCell_125 : decode cX4_addCell 125 = .ok (.new 86, 3) := by decide +kernel
theorem dX4_addCell_128 : decode cX4_addCell 128 = .ok (.dup, 1) := by decide +kernel
theorem dX4_addCell_129 : decode cX4_addCell 129 = .ok (.ldc 94, 2) := by decide +kernel
theorem dX4_addCell_131 : decode cX4_addCell 131 = .ok (.invokespecial 90, 3) := by decide +kernel
theorem dX4_addCell_134 : decode cX4_addCell 134 = .ok (.athrow, 1) := by decide +kernel
theorem dX4_addCell_135 : decode cX4_addCell 135 = .ok (.aload_n 0, 1) := by decide +kernel
theorem dX4_addCell_136 : decode cX4_addCell 136 = .ok (.getfield 91, 3) := by decide +kernel
theorem dX4_addCell_139 : decode cX4_addCell 139 = .ok (.istore 8, 2) := by decide +kernel
theorem dX4_addCell_141 : decode cX4_addCell 141 = .ok (.aload_n 0, 1) := by decide +kernel
theorem dX4_addCell_142 : decode cX4_addCell 142 = .ok (.getfield 24, 3) := by decide +kernel
theorem dX4_addCell_145 : decode cX4_addCell 145 = .ok (.iload 8, 2) := by decide +kernel
theorem dX4_addCell_147 : decode cX4_addCell 147 = .ok (.aaload, 1) := by decide +kernel
theorem dX4_addCell_148 : decode cX4_addCell 148 = .ok (.astore 9, 2) := by decide +kernel
theorem dX4_addCell_150 : decode cX4_addCell 150 = .ok (.aload 9, 2) := by decide +kernel
theorem dX4_addCell_152 : decode cX4_addCell 152 = .ok (.iload_n 1, 1) := by decide +kernel
theorem dX4_addCell_153 : decode cX4_addCell 153 = .ok (.putfield 96, 3) := by decide +kernel
theorem dX4_addCell_156 : decode cX4_addCell 156 = .ok (.aload 9, 2) := by decide +kernel
theorem dX4_addCell_158 : decode cX4_addCell 158 = .ok (.iload_n 2, 1) := by decide +kernel
theorem dX4_addCell_159 : decode cX4_addCell 159 = .ok (.putfield 100, 3) := by decide +kernel
theorem dX4_addCell_162 : decode cX4_addCell 162 = .ok (.aload 9, 2) := by decide +kernel
theorem dX4_addCell_164 : decode cX4_addCell 164 = .ok (.iload_n 3, 1) := by decide +kernel
theorem dX4_addCell_165 : decode cX4_addCell 165 = .ok (.putfield 103, 3) := by decide +kernel
theorem dX4_addCell_168 : decode cX4_addCell 168 = .ok (.aload 9, 2) := by decide +kernel
theorem dX4_addCell_170 : decode cX4_addCell 170 = .ok (.iload 4, 2) := by decide +kernel
theorem dX4_addCell_172 : decode cX4_addCell 172 = .ok (.putfield 106, 3) := by decide +kernel
theorem dX4_addCell_175 : decode cX4_addCell 175 = .ok (.aload 9, 2) := by decide +kernel
theorem dX4_addCell_177 : decode cX4_addCell 177 = .ok (.iload 5, 2) := by decide +kernel
theorem dX4_addCell_179 : decode cX4_addCell 179 = .ok (.putfield 109, 3) := by decide +kernel
theorem dX4_addCell_182 : decode cX4_addCell 182 = .ok (.aload 9, 2) := by decide +kernel
theorem dX4_addCell_184 : decode cX4_addCell 184 = .ok (.iload 6, 2) := by decide +kernel
theorem dX4_addCell_186 : decode cX4_addCell 186 = .ok (.putfield 112, 3) := by decide +kernel
theorem dX4_addCell_189 : decode cX4_addCell 189 = .ok (.aload 9, 2) := by decide +kernel
theorem dX4_addCell_191 : decode cX4_addCell 191 = .ok (.iload 7, 2) := by decide +kernel
theorem dX4_addCell_193 : decode cX4_addCell 193 = .ok (.putfield 115, 3) := by decide +kernel
theorem dX4_addCell_196 : decode cX4_addCell 196 = .ok (.aload 9, 2) := by decide +kernel
theorem dX4_addCell_198 : decode cX4_addCell 198 = .ok (.aload_n 0, 1) := by decide +kernel
theorem dX4_addCell_199 : decode cX4_addCell 199 = .ok (.iload_n 2, 1) := by decide +kernel
theorem dX4_addCell_200 : decode cX4_addCell 200 = .ok (.invokevirtual 118, 3) := by decide +kernel
theorem dX4_addCell_203 : decode cX4_addCell 203 = .ok (.iload_n 3, 1) := by decide +kernel
theorem dX4_addCell_204 : decode cX4_addCell 204 = .ok (.iconst (-1), 1) := by decide +kernel
theorem dX4_addCell_205 : decode cX4_addCell 205 = .ok (.if_icmp .ne 7, 3) := by decide +kernel
theorem dX4_addCell_208 : decode cX4_addCell 208 = .ok (.iconst 0, 1) := by decide +kernel
theorem dX4_addCell_209 : decode cX4_addCell 209 = .ok (.goto 8, 3) := by decide +kernel
theorem dX4_addCell_212 : decode cX4_addCell 212 = .ok (.aload_n 0, 1) := by decide +kernel
theorem dX4_addCell_213 : decode cX4_addCell 213 = .ok (.iload_n 3, 1) := by decide +kernel
theorem dX4_addCell_214 : decode cX4_addCell 214 = .ok (.invokevirtual 118, 3) := by decide +kernel
theorem dX4_addCell_217 : decode cX4_addCell 217 = .ok (.ior, 1) := by decide +kernel
theorem dX4_addCell_218 : decode cX4_addCell 218 = .ok (.putfield 122, 3) := by decide +kernel
theorem dX4_addCell_221 : decode cX4_addCell 221 = .ok (.aload_n 0, 1) := by decide +kernel
theorem dX4_addCell_222 : decode cX4_addCell 222 = .ok (.getfield 16, 3) := by decide +kernel
theorem dX4_addCell_225 : decode cX4_addCell 225 = .ok (.iload 5, 2) := by decide +kernel
theorem dX4_addCell_227 : decode cX4_addCell 227 = .ok (.iload 8, 2) := by decide +kernel
theorem dX4_addCell_229 : decode cX4_addCell 229 = .ok (.iastore, 1) := by decide +kernel
theorem dX4_addCell_230 : decode cX4_addCell 230 = .ok (.aload_n 0, 1) := by decide +kernel
theorem dX4_addCell_231 : decode cX4_addCell 231 = .ok (.dup, 1) := by decide +kernel
theorem dX4_addCell_232 : decode cX4_addCell 232 = .ok (.getfield 91, 3) := by decide +kernel
theorem dX4_addCell_235 : decode cX4_addCell 235 = .ok (.iconst 1, 1) := by decide +kernel
theorem dX4_addCell_236 : decode cX4_addCell 236 = .ok (.iadd, 1) := by decide +kernel
theorem dX4_addCell_237 : decode cX4_addCell 237 = .ok (.putfield 91, 3) := by decide +kernel
theorem dX4_addCell_240 : decode cX4_addCell 240 = .ok (.iload 8, 2) := by decide +kernel
theorem dX4_addCell_242 : decode cX4_addCell 242 = .ok (.ireturn, 1) := by decide +kernel
theorem dX4_setConstant_0 : decode cX4_setConstant 0 = .ok (.aload_n 0, 1) := by decide +kernel
theorem dX4_setConstant_1 : decode cX4_setConstant 1 = .ok (.iload_n 1, 1) := by decide +kernel
theorem dX4_setConstant_2 : decode cX4_setConstant 2 = .ok (.invokevirtual 125, 3) := by decide +kernel
theorem dX4_setConstant_5 : decode cX4_setConstant 5 = .ok (.astore_n 3, 1) := by decide +kernel
theorem dX4_setConstant_6 : decode cX4_setConstant 6 = .ok (.iload_n 2, 1) := by decide +kernel
theorem dX4_setConstant_7 : decode cX4_setConstant 7 = .ok (.iconst 0, 1) := by decide +kernel
theorem dX4_setConstant_8 : decode cX4_setConstant 8 = .ok (.bipush 99, 2) := by decide +kernel
theorem dX4_setConstant_10 : decode cX4_setConstant 10 = .ok (.invokestatic 46, 3) := by decide +kernel
theorem dX4_setConstant_13 : decode cX4_setConstant 13 = .ok (.ifCond .ne 13, 3) := by decide +kernel
theorem dX4_setConstant_16 : decode cX4_setConstant 16 = .ok (.new 50, 3) := by decide +kernel
theorem dX4_setConstant_19 : decode cX4_setConstant 19 = .ok (.dup, 1) := by decide +kernel
theorem dX4_setConstant_20 : decode cX4_setConstant 20 = .ok (.ldc 129, 2) := by decide +kernel
theorem dX4_setConstant_22 : decode cX4_setConstant 22 = .ok (.invokespecial 54, 3) := by decide +kernel
theorem dX4_setConstant_25 : decode cX4_setConstant 25 = .ok (.athrow, 1) := by decide +kernel
theorem dX4_setConstant_26 : decode cX4_setConstant 26 = .ok (.aload_n 3, 1) := by decide +kernel
theorem dX4_setConstant_27 : decode cX4_setConstant 27 = .ok (.getfield 106, 3) := by decide +kernel
theorem dX4_setConstant_30 : decode cX4_setConstant 30 = .ok (.istore 4, 2) := by decide +kernel
theorem dX4_setConstant_32 : decode cX4_setConstant 32 = .ok (.aload_n 3, 1) := by decide +kernel
theorem dX4_setConstant_33 : decode cX4_setConstant 33 = .ok (.iload_n 2, 1) := by decide +kernel
theorem dX4_setConstant_34 : decode cX4_setConstant 34 = .ok (.putfield 106, 3) := by decide +kernel
theorem dX4_setConstant_37 : decode cX4_setConstant 37 = .ok (.iload 4, 2) := by decide +kernel
theorem dX4_setConstant_39 : decode cX4_setConstant 39 = .ok (.ireturn, 1) := by decide +kernel
theorem dX4_cellCount_0 : decode cX4_cellCount 0 = .ok (.aload_n 0, 1) := by decide +kernel
theorem dX4_cellCount_1 : decode cX4_cellCount 1 = .ok (.getfield 91, 3) := by decide +kernel
theorem dX4_cellCount_4 : decode cX4_cellCount 4 = .ok (.ireturn, 1) := by decide +kernel
theorem dX4_value_0 : decode cX4_value 0 = .ok (.iload_n 1, 1) := by decide +kernel
theorem dX4_value_1 : decode cX4_value 1 = .ok (.invokestatic 75, 3) := by decide +kernel
theorem dX4_value_4 : decode cX4_value 4 = .ok (.aload_n 0, 1) := by decide +kernel
theorem dX4_value_5 : decode cX4_value 5 = .ok (.getfield 9, 3) := by decide +kernel
theorem dX4_value_8 : decode cX4_value 8 = .ok (.iload_n 1, 1) := by decide +kernel
theorem dX4_value_9 : decode cX4_value 9 = .ok (.iaload, 1) := by decide +kernel
theorem dX4_value_10 : decode cX4_value 10 = .ok (.iconst (-1), 1) := by decide +kernel
theorem dX4_value_11 : decode cX4_value 11 = .ok (.if_icmp .ne 13, 3) := by decide +kernel
theorem dX4_value_14 : decode cX4_value 14 = .ok (.new 131, 3) := by decide +kernel
theorem dX4_value_17 : decode cX4_value 17 = .ok (.dup, 1) := by decide +kernel
theorem dX4_value_18 : decode cX4_value 18 = .ok (.ldc 78, 2) := by decide +kernel
theorem dX4_value_20 : decode cX4_value 20 = .ok (.invokespecial 133, 3) := by decide +kernel
theorem dX4_value_23 : decode cX4_value 23 = .ok (.athrow, 1) := by decide +kernel
theorem dX4_value_24 : decode cX4_value 24 = .ok (.aload_n 0, 1) := by decide +kernel
theorem dX4_value_25 : decode cX4_value 25 = .ok (.getfield 9, 3) := by decide +kernel
theorem dX4_value_28 : decode cX4_value 28 = .ok (.iload_n 1, 1) := by decide +kernel
theorem dX4_value_29 : decode cX4_value 29 = .ok (.iaload, 1) := by decide +kernel
theorem dX4_value_30 : decode cX4_value 30 = .ok (.ireturn, 1) := by decide +kernel
theorem dX4_writer_0 : decode cX4_writer 0 = .ok (.iload_n 1, 1) := by decide +kernel
theorem dX4_writer_1 : decode cX4_writer 1 = .ok (.invokestatic 75, 3) := by decide +kernel
theorem dX4_writer_4 : decode cX4_writer 4 = .ok (.aload_n 0, 1) := by decide +kernel
theorem dX4_writer_5 : decode cX4_writer 5 = .ok (.getfield 16, 3) := by decide +kernel
theorem dX4_writer_8 : decode cX4_writer 8 = .ok (.iload_n 1, 1) := by decide +kernel
theorem dX4_writer_9 : decode cX4_writer 9 = .ok (.iaload, 1) := by decide +kernel
theorem dX4_writer_10 : decode cX4_writer 10 = .ok (.iconst (-1), 1) := by decide +kernel
theorem dX4_writer_11 : decode cX4_writer 11 = .ok (.if_icmp .ne 13, 3) := by decide +kernel
theorem dX4_writer_14 : decode cX4_writer 14 = .ok (.new 131, 3) := by decide +kernel
theorem dX4_writer_17 : decode cX4_writer 17 = .ok (.dup, 1) := by decide +kernel
theorem dX4_writer_18 : decode cX4_writer 18 = .ok (.ldc 134, 2) := by decide +kernel
theorem dX4_writer_20 : decode cX4_writer 20 = .ok (.invokespecial 133, 3) := by decide +kernel
theorem dX4_writer_23 : decode cX4_writer 23 = .ok (.athrow, 1) := by decide +kernel
theorem dX4_writer_24 : decode cX4_writer 24 = .ok (.aload_n 0, 1) := by decide +kernel
theorem dX4_writer_25 : decode cX4_writer 25 = .ok (.getfield 16, 3) := by decide +kernel
theorem dX4_writer_28 : decode cX4_writer 28 = .ok (.iload_n 1, 1) := by decide +kernel
theorem dX4_writer_29 : decode cX4_writer 29 = .ok (.iaload, 1) := by decide +kernel
theorem dX4_writer_30 : decode cX4_writer 30 = .ok (.ireturn, 1) := by decide +kernel
theorem dX4_run_0 : decode cX4_run 0 = .ok (.aload_n 0, 1) := by decide +kernel
theorem dX4_run_1 : decode cX4_run 1 = .ok (.iload_n 1, 1) := by decide +kernel
theorem dX4_run_2 : decode cX4_run 2 = .ok (.aload_n 0, 1) := by decide +kernel
theorem dX4_run_3 : decode cX4_run 3 = .ok (.iload_n 1, 1) := by decide +kernel
theorem dX4_run_4 : decode cX4_run 4 = .ok (.invokevirtual 125, 3) := by decide +kernel
theorem dX4_run_7 : decode cX4_run 7 = .ok (.invokevirtual 136, 3) := by decide +kernel
theorem dX4_run_10 : decode cX4_run 10 = .ok (.ireturn, 1) := by decide +kernel
theorem dX4_runAll_0 : decode cX4_runAll 0 = .ok (.iconst 0, 1) := by decide +kernel
theorem dX4_runAll_1 : decode cX4_runAll 1 = .ok (.istore_n 1, 1) := by decide +kernel
theorem dX4_runAll_2 : decode cX4_runAll 2 = .ok (.iconst 0, 1) := by decide +kernel
theorem dX4_runAll_3 : decode cX4_runAll 3 = .ok (.istore_n 2, 1) := by decide +kernel
theorem dX4_runAll_4 : decode cX4_runAll 4 = .ok (.iload_n 2, 1) := by decide +kernel
theorem dX4_runAll_5 : decode cX4_runAll 5 = .ok (.aload_n 0, 1) := by decide +kernel
theorem dX4_runAll_6 : decode cX4_runAll 6 = .ok (.getfield 91, 3) := by decide +kernel
theorem dX4_runAll_9 : decode cX4_runAll 9 = .ok (.if_icmp .ge 48, 3) := by decide +kernel
theorem dX4_runAll_12 : decode cX4_runAll 12 = .ok (.aload_n 0, 1) := by decide +kernel
theorem dX4_runAll_13 : decode cX4_runAll 13 = .ok (.getfield 24, 3) := by decide +kernel
theorem dX4_runAll_16 : decode cX4_runAll 16 = .ok (.iload_n 2, 1) := by decide +kernel
theorem dX4_runAll_17 : decode cX4_runAll 17 = .ok (.aaload, 1) := by decide +kernel
theorem dX4_runAll_18 : decode cX4_runAll 18 = .ok (.astore_n 3, 1) := by decide +kernel
theorem dX4_runAll_19 : decode cX4_runAll 19 = .ok (.aload_n 0, 1) := by decide +kernel
theorem dX4_runAll_20 : decode cX4_runAll 20 = .ok (.aload_n 3, 1) := by decide +kernel
theorem dX4_runAll_21 : decode cX4_runAll 21 = .ok (.iload_n 1, 1) := by decide +kernel
theorem dX4_runAll_22 : decode cX4_runAll 22 = .ok (.invokevirtual 140, 3) := by decide +kernel
theorem dX4_runAll_25 : decode cX4_runAll 25 = .ok (.ifCond .ne 10, 3) := by decide +kernel
theorem dX4_runAll_28 : decode cX4_runAll 28 = .ok (.aload_n 0, 1) := by decide +kernel
theorem dX4_runAll_29 : decode cX4_runAll 29 = .ok (.iload_n 2, 1) := by decide +kernel
theorem dX4_runAll_30 : decode cX4_runAll 30 = .ok (.aload_n 3, 1) := by decide +kernel
theorem dX4_runAll_31 : decode cX4_runAll 31 = .ok (.invokevirtual 136, 3) := by decide +kernel
theorem dX4_runAll_34 : decode cX4_runAll 34 = .ok (.pop, 1) := by decide +kernel
theorem dX4_runAll_35 : decode cX4_runAll 35 = .ok (.aload_n 0, 1) := by decide +kernel
theorem dX4_runAll_36 : decode cX4_runAll 36 = .ok (.aload_n 3, 1) := by decide +kernel
theorem dX4_runAll_37 : decode cX4_runAll 37 = .ok (.iload_n 1, 1) := by decide +kernel
theorem dX4_runAll_38 : decode cX4_runAll 38 = .ok (.invokevirtual 140, 3) := by decide +kernel
theorem dX4_runAll_41 : decode cX4_runAll 41 = .ok (.ifCond .eq 10, 3) := by decide +kernel
theorem dX4_runAll_44 : decode cX4_runAll 44 = .ok (.iload_n 1, 1) := by decide +kernel
theorem dX4_runAll_45 : decode cX4_runAll 45 = .ok (.iload_n 2, 1) := by decide +kernel
theorem dX4_runAll_46 : decode cX4_runAll 46 = .ok (.invokestatic 144, 3) := by decide +kernel
theorem dX4_runAll_49 : decode cX4_runAll 49 = .ok (.ior, 1) := by decide +kernel
theorem dX4_runAll_50 : decode cX4_runAll 50 = .ok (.istore_n 1, 1) := by decide +kernel
theorem dX4_runAll_51 : decode cX4_runAll 51 = .ok (.iinc 2 1, 3) := by decide +kernel
theorem dX4_runAll_54 : decode cX4_runAll 54 = .ok (.goto (-50), 3) := by decide +kernel
theorem dX4_runAll_57 : decode cX4_runAll 57 = .ok (.iload_n 1, 1) := by decide +kernel
theorem dX4_runAll_58 : decode cX4_runAll 58 = .ok (.invokestatic 147, 3) := by decide +kernel
theorem dX4_runAll_61 : decode cX4_runAll 61 = .ok (.ireturn, 1) := by decide +kernel
theorem dX4_state_0 : decode cX4_state 0 = .ok (.aload_n 0, 1) := by decide +kernel
theorem dX4_state_1 : decode cX4_state 1 = .ok (.iload_n 1, 1) := by decide +kernel
theorem dX4_state_2 : decode cX4_state 2 = .ok (.invokevirtual 125, 3) := by decide +kernel
theorem dX4_state_5 : decode cX4_state 5 = .ok (.astore_n 2, 1) := by decide +kernel
theorem dX4_state_6 : decode cX4_state 6 = .ok (.aload_n 2, 1) := by decide +kernel
theorem dX4_state_7 : decode cX4_state 7 = .ok (.getfield 152, 3) := by decide +kernel
theorem dX4_state_10 : decode cX4_state 10 = .ok (.ifCond .ne 6, 3) := by decide +kernel
theorem dX4_state_13 : decode cX4_state 13 = .ok (.bipush 110, 2) := by decide +kernel
theorem dX4_state_15 : decode cX4_state 15 = .ok (.ireturn, 1) := by decide +kernel
theorem dX4_state_16 : decode cX4_state 16 = .ok (.aload_n 2, 1) := by decide +kernel
theorem dX4_state_17 : decode cX4_state 17 = .ok (.getfield 152, 3) := by decide +kernel
theorem dX4_state_20 : decode cX4_state 20 = .ok (.iconst 2, 1) := by decide +kernel
theorem dX4_state_21 : decode cX4_state 21 = .ok (.if_icmp .ne 6, 3) := by decide +kernel
theorem dX4_state_24 : decode cX4_state 24 = .ok (.bipush 120, 2) := by decide +kernel
theorem dX4_state_26 : decode cX4_state 26 = .ok (.ireturn, 1) := by decide +kernel
theorem dX4_state_27 : decode cX4_state 27 = .ok (.aload_n 0, 1) := by decide +kernel
theorem dX4_state_28 : decode cX4_state 28 = .ok (.iload_n 1, 1) := by decide +kernel
theorem dX4_state_29 : decode cX4_state 29 = .ok (.invokevirtual 155, 3) := by decide +kernel
theorem dX4_state_32 : decode cX4_state 32 = .ok (.ifCond .eq 8, 3) := by decide +kernel
theorem dX4_state_35 : decode cX4_state 35 = .ok (.bipush 102, 2) := by decide +kernel
theorem dX4_state_37 : decode cX4_state 37 = .ok (.goto 5, 3) := by decide +kernel
theorem dX4_state_40 : decode cX4_state 40 = .ok (.bipush 115, 2) := by decide +kernel
theorem dX4_state_42 : decode cX4_state 42 = .ok (.ireturn, 1) := by decide +kernel
theorem dX4_resultAnew_0 : decode cX4_resultAnew 0 = .ok (.aload_n 0, 1) := by decide +kernel
theorem dX4_resultAnew_1 : decode cX4_resultAnew 1 = .ok (.iload_n 1, 1) := by decide +kernel
theorem dX4_resultAnew_2 : decode cX4_resultAnew 2 = .ok (.invokevirtual 125, 3) := by decide +kernel
theorem dX4_resultAnew_5 : decode cX4_resultAnew 5 = .ok (.astore_n 2, 1) := by decide +kernel
theorem dX4_resultAnew_6 : decode cX4_resultAnew 6 = .ok (.aload_n 0, 1) := by decide +kernel
theorem dX4_resultAnew_7 : decode cX4_resultAnew 7 = .ok (.invokevirtual 158, 3) := by decide +kernel
theorem dX4_resultAnew_10 : decode cX4_resultAnew 10 = .ok (.aload_n 0, 1) := by decide +kernel
theorem dX4_resultAnew_11 : decode cX4_resultAnew 11 = .ok (.getfield 19, 3) := by decide +kernel
theorem dX4_resultAnew_14 : decode cX4_resultAnew 14 = .ok (.aload_n 2, 1) := by decide +kernel
theorem dX4_resultAnew_15 : decode cX4_resultAnew 15 = .ok (.getfield 109, 3) := by decide +kernel
theorem dX4_resultAnew_18 : decode cX4_resultAnew 18 = .ok (.iaload, 1) := by decide +kernel
theorem dX4_resultAnew_19 : decode cX4_resultAnew 19 = .ok (.istore_n 3, 1) := by decide +kernel
theorem dX4_resultAnew_20 : decode cX4_resultAnew 20 = .ok (.iload_n 3, 1) := by decide +kernel
theorem dX4_resultAnew_21 : decode cX4_resultAnew 21 = .ok (.iconst (-1), 1) := by decide +kernel
theorem dX4_resultAnew_22 : decode cX4_resultAnew 22 = .ok (.if_icmp .ne 13, 3) := by decide +kernel
theorem dX4_resultAnew_25 : decode cX4_resultAnew 25 = .ok (.new 86, 3) := by decide +kernel
theorem dX4_resultAnew_28 : decode cX4_resultAnew 28 = .ok (.dup, 1) := by decide +kernel
theorem dX4_resultAnew_29 : decode cX4_resultAnew 29 = .ok (.ldc 161, 2) := by decide +kernel
theorem dX4_resultAnew_31 : decode cX4_resultAnew 31 = .ok (.invokespecial 90, 3) := by decide +kernel
theorem dX4_resultAnew_34 : decode cX4_resultAnew 34 = .ok (.athrow, 1) := by decide +kernel
theorem dX4_resultAnew_35 : decode cX4_resultAnew 35 = .ok (.iload_n 3, 1) := by decide +kernel
theorem dX4_resultAnew_36 : decode cX4_resultAnew 36 = .ok (.ireturn, 1) := by decide +kernel
theorem dX4_fresh_0 : decode cX4_fresh 0 = .ok (.aload_n 0, 1) := by decide +kernel
theorem dX4_fresh_1 : decode cX4_fresh 1 = .ok (.invokevirtual 163, 3) := by decide +kernel
theorem dX4_fresh_4 : decode cX4_fresh 4 = .ok (.invokestatic 147, 3) := by decide +kernel
theorem dX4_fresh_7 : decode cX4_fresh 7 = .ok (.ireturn, 1) := by decide +kernel
theorem dX4_runs_0 : decode cX4_runs 0 = .ok (.aload_n 0, 1) := by decide +kernel
theorem dX4_runs_1 : decode cX4_runs 1 = .ok (.iload_n 1, 1) := by decide +kernel
theorem dX4_runs_2 : decode cX4_runs 2 = .ok (.invokevirtual 125, 3) := by decide +kernel
theorem dX4_runs_5 : decode cX4_runs 5 = .ok (.getfield 167, 3) := by decide +kernel
theorem dX4_runs_8 : decode cX4_runs 8 = .ok (.ireturn, 1) := by decide +kernel
theorem dX4_found_0 : decode cX4_found 0 = .ok (.aload_n 0, 1) := by decide +kernel
theorem dX4_found_1 : decode cX4_found 1 = .ok (.iload_n 1, 1) := by decide +kernel
theorem dX4_found_2 : decode cX4_found 2 = .ok (.invokevirtual 125, 3) := by decide +kernel
theorem dX4_found_5 : decode cX4_found 5 = .ok (.getfield 170, 3) := by decide +kernel
theorem dX4_found_8 : decode cX4_found 8 = .ok (.ireturn, 1) := by decide +kernel
theorem dX4_failure_0 : decode cX4_failure 0 = .ok (.aload_n 0, 1) := by decide +kernel
theorem dX4_failure_1 : decode cX4_failure 1 = .ok (.iload_n 1, 1) := by decide +kernel
theorem dX4_failure_2 : decode cX4_failure 2 = .ok (.invokevirtual 173, 3) := by decide +kernel
theorem dX4_failure_5 : decode cX4_failure 5 = .ok (.getfield 177, 3) := by decide +kernel
theorem dX4_failure_8 : decode cX4_failure 8 = .ok (.ireturn, 1) := by decide +kernel
theorem dX4_root_0 : decode cX4_root 0 = .ok (.aload_n 0, 1) := by decide +kernel
theorem dX4_root_1 : decode cX4_root 1 = .ok (.iload_n 1, 1) := by decide +kernel
theorem dX4_root_2 : decode cX4_root 2 = .ok (.invokevirtual 173, 3) := by decide +kernel
theorem dX4_root_5 : decode cX4_root 5 = .ok (.getfield 180, 3) := by decide +kernel
theorem dX4_root_8 : decode cX4_root 8 = .ok (.ireturn, 1) := by decide +kernel
theorem dX4_rootFailure_0 : decode cX4_rootFailure 0 = .ok (.aload_n 0, 1) := by decide +kernel
theorem dX4_rootFailure_1 : decode cX4_rootFailure 1 = .ok (.iload_n 1, 1) := by decide +kernel
theorem dX4_rootFailure_2 : decode cX4_rootFailure 2 = .ok (.invokevirtual 173, 3) := by decide +kernel
theorem dX4_rootFailure_5 : decode cX4_rootFailure 5 = .ok (.getfield 183, 3) := by decide +kernel
theorem dX4_rootFailure_8 : decode cX4_rootFailure 8 = .ok (.ireturn, 1) := by decide +kernel
theorem dX4_causes_0 : decode cX4_causes 0 = .ok (.aload_n 0, 1) := by decide +kernel
theorem dX4_causes_1 : decode cX4_causes 1 = .ok (.iload_n 1, 1) := by decide +kernel
theorem dX4_causes_2 : decode cX4_causes 2 = .ok (.invokevirtual 173, 3) := by decide +kernel
theorem dX4_causes_5 : decode cX4_causes 5 = .ok (.getfield 186, 3) := by decide +kernel
theorem dX4_causes_8 : decode cX4_causes 8 = .ok (.ireturn, 1) := by decide +kernel
theorem dX4_depends_0 : decode cX4_depends 0 = .ok (.aload_n 0, 1) := by decide +kernel
theorem dX4_depends_1 : decode cX4_depends 1 = .ok (.iload_n 1, 1) := by decide +kernel
theorem dX4_depends_2 : decode cX4_depends 2 = .ok (.invokevirtual 125, 3) := by decide +kernel
theorem dX4_depends_5 : decode cX4_depends 5 = .ok (.astore_n 3, 1) := by decide +kernel
theorem dX4_depends_6 : decode cX4_depends 6 = .ok (.iload_n 2, 1) := by decide +kernel
theorem dX4_depends_7 : decode cX4_depends 7 = .ok (.invokestatic 75, 3) := by decide +kernel
theorem dX4_depends_10 : decode cX4_depends 10 = .ok (.aload_n 3, 1) := by decide +kernel
theorem dX4_depends_11 : decode cX4_depends 11 = .ok (.getfield 122, 3) := by decide +kernel
theorem dX4_depends_14 : decode cX4_depends 14 = .ok (.iload_n 2, 1) := by decide +kernel
theorem dX4_depends_15 : decode cX4_depends 15 = .ok (.invokestatic 189, 3) := by decide +kernel
theorem dX4_depends_18 : decode cX4_depends 18 = .ok (.ireturn, 1) := by decide +kernel
theorem dX4_owners_0 : decode cX4_owners 0 = .ok (.aload_n 0, 1) := by decide +kernel
theorem dX4_owners_1 : decode cX4_owners 1 = .ok (.iload_n 1, 1) := by decide +kernel
theorem dX4_owners_2 : decode cX4_owners 2 = .ok (.invokevirtual 125, 3) := by decide +kernel
theorem dX4_owners_5 : decode cX4_owners 5 = .ok (.astore_n 2, 1) := by decide +kernel
theorem dX4_owners_6 : decode cX4_owners 6 = .ok (.iconst 0, 1) := by decide +kernel
theorem dX4_owners_7 : decode cX4_owners 7 = .ok (.istore_n 3, 1) := by decide +kernel
theorem dX4_owners_8 : decode cX4_owners 8 = .ok (.iconst 0, 1) := by decide +kernel
theorem dX4_owners_9 : decode cX4_owners 9 = .ok (.istore 4, 2) := by decide +kernel
theorem dX4_owners_11 : decode cX4_owners 11 = .ok (.iload 4, 2) := by decide +kernel
theorem dX4_owners_13 : decode cX4_owners 13 = .ok (.bipush 12, 2) := by decide +kernel
theorem dX4_owners_15 : decode cX4_owners 15 = .ok (.if_icmp .ge 43, 3) := by decide +kernel
theorem dX4_owners_18 : decode cX4_owners 18 = .ok (.aload_n 2, 1) := by decide +kernel
theorem dX4_owners_19 : decode cX4_owners 19 = .ok (.getfield 122, 3) := by decide +kernel
theorem dX4_owners_22 : decode cX4_owners 22 = .ok (.iload 4, 2) := by decide +kernel
theorem dX4_owners_24 : decode cX4_owners 24 = .ok (.invokestatic 189, 3) := by decide +kernel
theorem dX4_owners_27 : decode cX4_owners 27 = .ok (.ifCond .eq 25, 3) := by decide +kernel
theorem dX4_owners_30 : decode cX4_owners 30 = .ok (.aload_n 0, 1) := by decide +kernel
theorem dX4_owners_31 : decode cX4_owners 31 = .ok (.iload 4, 2) := by decide +kernel
theorem dX4_owners_33 : decode cX4_owners 33 = .ok (.invokevirtual 193, 3) := by decide +kernel
theorem dX4_owners_36 : decode cX4_owners 36 = .ok (.ifCond .eq 16, 3) := by decide +kernel
theorem dX4_owners_39 : decode cX4_owners 39 = .ok (.iload_n 3, 1) := by decide +kernel
theorem dX4_owners_40 : decode cX4_owners 40 = .ok (.aload_n 0, 1) := by decide +kernel
theorem dX4_owners_41 : decode cX4_owners 41 = .ok (.getfield 13, 3) := by decide +kernel
theorem dX4_owners_44 : decode cX4_owners 44 = .ok (.iload 4, 2) := by decide +kernel
theorem dX4_owners_46 : decode cX4_owners 46 = .ok (.iaload, 1) := by decide +kernel
theorem dX4_owners_47 : decode cX4_owners 47 = .ok (.invokestatic 144, 3) := by decide +kernel
theorem dX4_owners_50 : decode cX4_owners 50 = .ok (.ior, 1) := by decide +kernel
theorem dX4_owners_51 : decode cX4_owners 51 = .ok (.istore_n 3, 1) := by decide +kernel
theorem dX4_owners_52 : decode cX4_owners 52 = .ok (.iinc 4 1, 3) := by decide +kernel
theorem dX4_owners_55 : decode cX4_owners 55 = .ok (.goto (-44), 3) := by decide +kernel
theorem dX4_owners_58 : decode cX4_owners 58 = .ok (.iload_n 3, 1) := by decide +kernel
theorem dX4_owners_59 : decode cX4_owners 59 = .ok (.ireturn, 1) := by decide +kernel
theorem dX4_dependents_0 : decode cX4_dependents 0 = .ok (.iload_n 1, 1) := by decide +kernel
theorem dX4_dependents_1 : decode cX4_dependents 1 = .ok (.invokestatic 75, 3) := by decide +kernel
theorem dX4_dependents_4 : decode cX4_dependents 4 = .ok (.iconst 0, 1) := by decide +kernel
theorem dX4_dependents_5 : decode cX4_dependents 5 = .ok (.istore_n 2, 1) := by decide +kernel
theorem dX4_dependents_6 : decode cX4_dependents 6 = .ok (.iconst 0, 1) := by decide +kernel
theorem dX4_dependents_7 : decode cX4_dependents 7 = .ok (.istore_n 3, 1) := by decide +kernel
theorem dX4_dependents_8 : decode cX4_dependents 8 = .ok (.iload_n 3, 1) := by decide +kernel
theorem dX4_dependents_9 : decode cX4_dependents 9 = .ok (.aload_n 0, 1) := by decide +kernel
theorem dX4_dependents_10 : decode cX4_dependents 10 = .ok (.getfield 91, 3) := by decide +kernel
theorem dX4_dependents_13 : decode cX4_dependents 13 = .ok (.if_icmp .ge 28, 3) := by decide +kernel
theorem dX4_dependents_16 : decode cX4_dependents 16 = .ok (.aload_n 0, 1) := by decide +kernel
theorem dX4_dependents_17 : decode cX4_dependents 17 = .ok (.getfield 24, 3) := by decide +kernel
theorem dX4_dependents_20 : decode cX4_dependents 20 = .ok (.iload_n 3, 1) := by decide +kernel
theorem dX4_dependents_21 : decode cX4_dependents 21 = .ok (.aaload, 1) := by decide +kernel
theorem dX4_dependents_22 : decode cX4_dependents 22 = .ok (.getfield 122, 3) := by decide +kernel
theorem dX4_dependents_25 : decode cX4_dependents 25 = .ok (.iload_n 1, 1) := by decide +kernel
theorem dX4_dependents_26 : decode cX4_dependents 26 = .ok (.invokestatic 189, 3) := by decide +kernel
theorem dX4_dependents_29 : decode cX4_dependents 29 = .ok (.ifCond .eq 6, 3) := by decide +kernel
theorem dX4_dependents_32 : decode cX4_dependents 32 = .ok (.iinc 2 1, 3) := by decide +kernel
theorem dX4_dependents_35 : decode cX4_dependents 35 = .ok (.iinc 3 1, 3) := by decide +kernel
theorem dX4_dependents_38 : decode cX4_dependents 38 = .ok (.goto (-30), 3) := by decide +kernel
theorem dX4_dependents_41 : decode cX4_dependents 41 = .ok (.iload_n 2, 1) := by decide +kernel
theorem dX4_dependents_42 : decode cX4_dependents 42 = .ok (.ireturn, 1) := by decide +kernel
theorem dX4_addKernel_0 : decode cX4_addKernel 0 = .ok (.iload_n 1, 1) := by decide +kernel
theorem dX4_addKernel_1 : decode cX4_addKernel 1 = .ok (.iconst 1, 1) := by decide +kernel
theorem dX4_addKernel_2 : decode cX4_addKernel 2 = .ok (.bipush 20, 2) := by decide +kernel
theorem dX4_addKernel_4 : decode cX4_addKernel 4 = .ok (.invokestatic 46, 3) := by decide +kernel
theorem dX4_addKernel_7 : decode cX4_addKernel 7 = .ok (.ifCond .ne 13, 3) := by decide +kernel
theorem dX4_addKernel_10 : decode cX4_addKernel 10 = .ok (.new 50, 3) := by decide +kernel
theorem dX4_addKernel_13 : decode cX4_addKernel 13 = .ok (.dup, 1) := by decide +kernel
theorem dX4_addKernel_14 : decode cX4_addKernel 14 = .ok (.ldc 196, 2) := by decide +kernel
theorem dX4_addKernel_16 : decode cX4_addKernel 16 = .ok (.invokespecial 54, 3) := by decide +kernel
theorem dX4_addKernel_19 : decode cX4_addKernel 19 = .ok (.athrow, 1) := by decide +kernel
theorem dX4_addKernel_20 : decode cX4_addKernel 20 = .ok (.aload_n 0, 1) := by decide +kernel
theorem dX4_addKernel_21 : decode cX4_addKernel 21 = .ok (.getfield 198, 3) := by decide +kernel
theorem dX4_addKernel_24 : decode cX4_addKernel 24 = .ok (.iconst 3, 1) := by decide +kernel
theorem dX4_addKernel_25 : decode cX4_addKernel 25 = .ok (.if_icmp .lt 13, 3) := by decide +kernel
theorem dX4_addKernel_28 : decode cX4_addKernel 28 = .ok (.new 60, 3) := by decide +kernel
theorem dX4_addKernel_31 : decode cX4_addKernel 31 = .ok (.dup, 1) := by decide +kernel
theorem dX4_addKernel_32 : decode cX4_addKernel 32 = .ok (.ldc 201, 2) := by decide +kernel
theorem dX4_addKernel_34 : decode cX4_addKernel 34 = .ok (.invokespecial 64, 3) := by decide +kernel
theorem dX4_addKernel_37 : decode cX4_addKernel 37 = .ok (.athrow, 1) := by decide +kernel
theorem dX4_addKernel_38 : decode cX4_addKernel 38 = .ok (.aload_n 0, 1) := by decide +kernel
theorem dX4_addKernel_39 : decode cX4_addKernel 39 = .ok (.getfield 198, 3) := by decide +kernel
theorem dX4_addKernel_42 : decode cX4_addKernel 42 = .ok (.istore_n 2, 1) := by decide +kernel
theorem dX4_addKernel_43 : decode cX4_addKernel 43 = .ok (.aload_n 0, 1) := by decide +kernel
theorem dX4_addKernel_44 : decode cX4_addKernel 44 = .ok (.getfield 30, 3) := by decide +kernel
theorem dX4_addKernel_47 : decode cX4_addKernel 47 = .ok (.iload_n 2, 1) := by decide +kernel
theorem dX4_addKernel_48 : decode cX4_addKernel 48 = .ok (.aaload, 1) := by decide +kernel
theorem dX4_addKernel_49 : decode cX4_addKernel 49 = .ok (.iload_n 1, 1) := by decide +kernel
theorem dX4_addKernel_50 : decode cX4_addKernel 50 = .ok (.putfield 203, 3) := by decide +kernel
theorem dX4_addKernel_53 : decode cX4_addKernel 53 = .ok (.aload_n 0, 1) := by decide +kernel
theorem dX4_addKernel_54 : decode cX4_addKernel 54 = .ok (.dup, 1) := by decide +kernel
theorem dX4_addKernel_55 : decode cX4_addKernel 55 = .ok (.getfield 198, 3) := by decide +kernel
theorem dX4_addKernel_58 : decode cX4_addKernel 58 = .ok (.iconst 1, 1) := by decide +kernel
theorem dX4_addKernel_59 : decode cX4_addKernel 59 = .ok (.iadd, 1) := by decide +kernel
theorem dX4_addKernel_60 : decode cX4_addKernel 60 = .ok (.putfield 198, 3) := by decide +kernel
theorem dX4_addKernel_63 : decode cX4_addKernel 63 = .ok (.iload_n 2, 1) := by decide +kernel
theorem dX4_addKernel_64 : decode cX4_addKernel 64 = .ok (.ireturn, 1) := by decide +kernel
theorem dX4_free_0 : decode cX4_free 0 = .ok (.iload_n 1, 1) := by decide +kernel
theorem dX4_free_1 : decode cX4_free 1 = .ok (.iconst 0, 1) := by decide +kernel
theorem dX4_free_2 : decode cX4_free 2 = .ok (.aload_n 0, 1) := by decide +kernel
theorem dX4_free_3 : decode cX4_free 3 = .ok (.getfield 198, 3) := by decide +kernel
theorem dX4_free_6 : decode cX4_free 6 = .ok (.iconst 1, 1) := by decide +kernel
theorem dX4_free_7 : decode cX4_free 7 = .ok (.isub, 1) := by decide +kernel
theorem dX4_free_8 : decode cX4_free 8 = .ok (.invokestatic 46, 3) := by decide +kernel
theorem dX4_free_11 : decode cX4_free 11 = .ok (.ifCond .ne 13, 3) := by decide +kernel
theorem dX4_free_14 : decode cX4_free 14 = .ok (.new 206, 3) := by decide +kernel
theorem dX4_free_17 : decode cX4_free 17 = .ok (.dup, 1) := by decide +kernel
theorem dX4_free_18 : decode cX4_free 18 = .ok (.ldc 208, 2) := by decide +kernel
theorem dX4_free_20 : decode cX4_free 20 = .ok (.invokespecial 210, 3) := by decide +kernel
theorem dX4_free_23 : decode cX4_free 23 = .ok (.athrow, 1) := by decide +kernel
theorem dX4_free_24 : decode cX4_free 24 = .ok (.aload_n 0, 1) := by decide +kernel
theorem dX4_free_25 : decode cX4_free 25 = .ok (.getfield 30, 3) := by decide +kernel
theorem dX4_free_28 : decode cX4_free 28 = .ok (.iload_n 1, 1) := by decide +kernel
theorem dX4_free_29 : decode cX4_free 29 = .ok (.aaload, 1) := by decide +kernel
theorem dX4_free_30 : decode cX4_free 30 = .ok (.invokevirtual 211, 3) := by decide +kernel
theorem dX4_free_33 : decode cX4_free 33 = .ok (.ireturn, 1) := by decide +kernel
theorem dX4_schedule_0 : decode cX4_schedule 0 = .ok (.aload_n 0, 1) := by decide +kernel
theorem dX4_schedule_1 : decode cX4_schedule 1 = .ok (.iload_n 1, 1) := by decide +kernel
theorem dX4_schedule_2 : decode cX4_schedule 2 = .ok (.invokevirtual 125, 3) := by decide +kernel
theorem dX4_schedule_5 : decode cX4_schedule 5 = .ok (.astore_n 3, 1) := by decide +kernel
theorem dX4_schedule_6 : decode cX4_schedule 6 = .ok (.iload_n 2, 1) := by decide +kernel
theorem dX4_schedule_7 : decode cX4_schedule 7 = .ok (.iconst 0, 1) := by decide +kernel
theorem dX4_schedule_8 : decode cX4_schedule 8 = .ok (.bipush 50, 2) := by decide +kernel
theorem dX4_schedule_10 : decode cX4_schedule 10 = .ok (.invokestatic 46, 3) := by decide +kernel
theorem dX4_schedule_13 : decode cX4_schedule 13 = .ok (.ifCond .ne 13, 3) := by decide +kernel
theorem dX4_schedule_16 : decode cX4_schedule 16 = .ok (.new 50, 3) := by decide +kernel
theorem dX4_schedule_19 : decode cX4_schedule 19 = .ok (.dup, 1) := by decide +kernel
theorem dX4_schedule_20 : decode cX4_schedule 20 = .ok (.ldc 214, 2) := by decide +kernel
theorem dX4_schedule_22 : decode cX4_schedule 22 = .ok (.invokespecial 54, 3) := by decide +kernel
theorem dX4_schedule_25 : decode cX4_schedule 25 = .ok (.athrow, 1) := by decide +kernel
theorem dX4_schedule_26 : decode cX4_schedule 26 = .ok (.aload_n 3, 1) := by decide +kernel
theorem dX4_schedule_27 : decode cX4_schedule 27 = .ok (.getfield 216, 3) := by decide +kernel
theorem dX4_schedule_30 : decode cX4_schedule 30 = .ok (.istore 4, 2) := by decide +kernel
theorem dX4_schedule_32 : decode cX4_schedule 32 = .ok (.aload_n 3, 1) := by decide +kernel
theorem dX4_schedule_33 : decode cX4_schedule 33 = .ok (.iload_n 2, 1) := by decide +kernel
theorem dX4_schedule_34 : decode cX4_schedule 34 = .ok (.putfield 216, 3) := by decide +kernel
theorem dX4_schedule_37 : decode cX4_schedule 37 = .ok (.iload 4, 2) := by decide +kernel
theorem dX4_schedule_39 : decode cX4_schedule 39 = .ok (.ireturn, 1) := by decide +kernel
theorem dX4_pass_0 : decode cX4_pass 0 = .ok (.iload_n 1, 1) := by decide +kernel
theorem dX4_pass_1 : decode cX4_pass 1 = .ok (.iconst 1, 1) := by decide +kernel
theorem dX4_pass_2 : decode cX4_pass 2 = .ok (.bipush 50, 2) := by decide +kernel
theorem dX4_pass_4 : decode cX4_pass 4 = .ok (.invokestatic 46, 3) := by decide +kernel
theorem dX4_pass_7 : decode cX4_pass 7 = .ok (.ifCond .ne 13, 3) := by decide +kernel
theorem dX4_pass_10 : decode cX4_pass 10 = .ok (.new 50, 3) := by decide +kernel
theorem dX4_pass_13 : decode cX4_pass 13 = .ok (.dup, 1) := by decide +kernel
theorem dX4_pass_14 : decode cX4_pass 14 = .ok (.ldc 219, 2) := by decide +kernel
theorem dX4_pass_16 : decode cX4_pass 16 = .ok (.invokespecial 54, 3) := by decide +kernel
theorem dX4_pass_19 : decode cX4_pass 19 = .ok (.athrow, 1) := by decide +kernel
theorem dX4_pass_20 : decode cX4_pass 20 = .ok (.aload_n 0, 1) := by decide +kernel
theorem dX4_pass_21 : decode cX4_pass 21 = .ok (.getfield 221, 3) := by decide +kernel
theorem dX4_pass_24 : decode cX4_pass 24 = .ok (.iload_n 1, 1) := by decide +kernel
theorem dX4_pass_25 : decode cX4_pass 25 = .ok (.iadd, 1) := by decide +kernel
theorem dX4_pass_26 : decode cX4_pass 26 = .ok (.sipush 5000, 3) := by decide +kernel
theorem dX4_pass_29 : decode cX4_pass 29 = .ok (.if_icmp .le 13, 3) := by decide +kernel
theorem dX4_pass_32 : decode cX4_pass 32 = .ok (.new 60, 3) := by decide +kernel
theorem dX4_pass_35 : decode cX4_pass 35 = .ok (.dup, 1) := by decide +kernel
theorem dX4_pass_36 : decode cX4_pass 36 = .ok (.ldc 224, 2) := by decide +kernel
theorem dX4_pass_38 : decode cX4_pass 38 = .ok (.invokespecial 64, 3) := by decide +kernel
theorem dX4_pass_41 : decode cX4_pass 41 = .ok (.athrow, 1) := by decide +kernel
theorem dX4_pass_42 : decode cX4_pass 42 = .ok (.iconst 0, 1) := by decide +kernel
theorem dX4_pass_43 : decode cX4_pass 43 = .ok (.istore_n 2, 1) := by decide +kernel
theorem dX4_pass_44 : decode cX4_pass 44 = .ok (.iconst 0, 1) := by decide +kernel
theorem dX4_pass_45 : decode cX4_pass 45 = .ok (.istore_n 3, 1) := by decide +kernel
theorem dX4_pass_46 : decode cX4_pass 46 = .ok (.iload_n 3, 1) := by decide +kernel
theorem dX4_pass_47 : decode cX4_pass 47 = .ok (.iload_n 1, 1) := by decide +kernel
theorem dX4_pass_48 : decode cX4_pass 48 = .ok (.if_icmp .ge 58, 3) := by decide +kernel
theorem dX4_pass_51 : decode cX4_pass 51 = .ok (.aload_n 0, 1) := by decide +kernel
theorem dX4_pass_52 : decode cX4_pass 52 = .ok (.dup, 1) := by decide +kernel
theorem dX4_pass_53 : decode cX4_pass 53 = .ok (.getfield 221, 3) := by decide +kernel
theorem dX4_pass_56 : decode cX4_pass 56 = .ok (.iconst 1, 1) := by decide +kernel
theorem dX4_pass_57 : decode cX4_pass 57 = .ok (.iadd, 1) := by decide +kernel
theorem dX4_pass_58 : decode cX4_pass 58 = .ok (.putfield 221, 3) := by decide +kernel
theorem dX4_pass_61 : decode cX4_pass 61 = .ok (.iconst 0, 1) := by decide +kernel
theorem dX4_pass_62 : decode cX4_pass 62 = .ok (.istore 4, 2) := by decide +kernel
theorem dX4_pass_64 : decode cX4_pass 64 = .ok (.iload 4, 2) := by decide +kernel
theorem dX4_pass_66 : decode cX4_pass 66 = .ok (.aload_n 0, 1) := by decide +kernel
theorem dX4_pass_67 : decode cX4_pass 67 = .ok (.getfield 198, 3) := by decide +kernel
theorem dX4_pass_70 : decode cX4_pass 70 = .ok (.if_icmp .ge 23, 3) := by decide +kernel
theorem dX4_pass_73 : decode cX4_pass 73 = .ok (.aload_n 0, 1) := by decide +kernel
theorem dX4_pass_74 : decode cX4_pass 74 = .ok (.getfield 30, 3) := by decide +kernel
theorem dX4_pass_77 : decode cX4_pass 77 = .ok (.iload 4, 2) := by decide +kernel
theorem dX4_pass_79 : decode cX4_pass 79 = .ok (.aaload, 1) := by decide +kernel
theorem dX4_pass_80 : decode cX4_pass 80 = .ok (.aload_n 0, 1) := by decide +kernel
theorem dX4_pass_81 : decode cX4_pass 81 = .ok (.getfield 221, 3) := by decide +kernel
theorem dX4_pass_84 : decode cX4_pass 84 = .ok (.invokevirtual 226, 3) := by decide +kernel
theorem dX4_pass_87 : decode cX4_pass 87 = .ok (.iinc 4 1, 3) := by decide +kernel
theorem dX4_pass_90 : decode cX4_pass 90 = .ok (.goto (-26), 3) := by decide +kernel
theorem dX4_pass_93 : decode cX4_pass 93 = .ok (.iload_n 2, 1) := by decide +kernel
theorem dX4_pass_94 : decode cX4_pass 94 = .ok (.aload_n 0, 1) := by decide +kernel
theorem dX4_pass_95 : decode cX4_pass 95 = .ok (.invokevirtual 229, 3) := by decide +kernel
theorem dX4_pass_98 : decode cX4_pass 98 = .ok (.iadd, 1) := by decide +kernel
theorem dX4_pass_99 : decode cX4_pass 99 = .ok (.istore_n 2, 1) := by decide +kernel
theorem dX4_pass_100 : decode cX4_pass 100 = .ok (.iinc 3 1, 3) := by decide +kernel
theorem dX4_pass_103 : decode cX4_pass 103 = .ok (.goto (-57), 3) := by decide +kernel
theorem dX4_pass_106 : decode cX4_pass 106 = .ok (.iload_n 2, 1) := by decide +kernel
theorem dX4_pass_107 : decode cX4_pass 107 = .ok (.ireturn, 1) := by decide +kernel
theorem dX4_tick_0 : decode cX4_tick 0 = .ok (.aload_n 0, 1) := by decide +kernel
theorem dX4_tick_1 : decode cX4_tick 1 = .ok (.getfield 221, 3) := by decide +kernel
theorem dX4_tick_4 : decode cX4_tick 4 = .ok (.ireturn, 1) := by decide +kernel
theorem dX4_work_0 : decode cX4_work 0 = .ok (.aload_n 0, 1) := by decide +kernel
theorem dX4_work_1 : decode cX4_work 1 = .ok (.getfield 232, 3) := by decide +kernel
theorem dX4_work_4 : decode cX4_work 4 = .ok (.lreturn, 1) := by decide +kernel
theorem dX4_load_0 : decode cX4_load 0 = .ok (.iconst 0, 1) := by decide +kernel
theorem dX4_load_1 : decode cX4_load 1 = .ok (.istore_n 1, 1) := by decide +kernel
theorem dX4_load_2 : decode cX4_load 2 = .ok (.iconst 0, 1) := by decide +kernel
theorem dX4_load_3 : decode cX4_load 3 = .ok (.istore_n 2, 1) := by decide +kernel
