theorem dX4_load_4 : decode cX4_load 4 = .ok (.iconst 0, 1) := by decide +kernel
theorem dX4_load_5 : decode cX4_load 5 = .ok (.istore_n 3, 1) := by decide +kernel
theorem dX4_load_6 : decode cX4_load 6 = .ok (.iload_n 3, 1) := by decide +kernel
theorem dX4_load_7 : decode cX4_load 7 = .ok (.aload_n 0, 1) := by decide +kernel
theorem dX4_load_8 : decode cX4_load 8 = .ok (.getfield 198, 3) := by decide +kernel
theorem dX4_load_11 : decode cX4_load 11 = .ok (.if_icmp .ge 33, 3) := by decide +kernel
theorem dX4_load_14 : decode cX4_load 14 = .ok (.iload_n 1, 1) := by decide +kernel
theorem dX4_load_15 : decode cX4_load 15 = .ok (.aload_n 0, 1) := by decide +kernel
theorem dX4_load_16 : decode cX4_load 16 = .ok (.getfield 30, 3) := by decide +kernel
theorem dX4_load_19 : decode cX4_load 19 = .ok (.iload_n 3, 1) := by decide +kernel
theorem dX4_load_20 : decode cX4_load 20 = .ok (.aaload, 1) := by decide +kernel
theorem dX4_load_21 : decode cX4_load 21 = .ok (.getfield 236, 3) := by decide +kernel
theorem dX4_load_24 : decode cX4_load 24 = .ok (.iadd, 1) := by decide +kernel
theorem dX4_load_25 : decode cX4_load 25 = .ok (.istore_n 1, 1) := by decide +kernel
theorem dX4_load_26 : decode cX4_load 26 = .ok (.iload_n 2, 1) := by decide +kernel
theorem dX4_load_27 : decode cX4_load 27 = .ok (.aload_n 0, 1) := by decide +kernel
theorem dX4_load_28 : decode cX4_load 28 = .ok (.getfield 30, 3) := by decide +kernel
theorem dX4_load_31 : decode cX4_load 31 = .ok (.iload_n 3, 1) := by decide +kernel
theorem dX4_load_32 : decode cX4_load 32 = .ok (.aaload, 1) := by decide +kernel
theorem dX4_load_33 : decode cX4_load 33 = .ok (.getfield 203, 3) := by decide +kernel
theorem dX4_load_36 : decode cX4_load 36 = .ok (.iadd, 1) := by decide +kernel
theorem dX4_load_37 : decode cX4_load 37 = .ok (.istore_n 2, 1) := by decide +kernel
theorem dX4_load_38 : decode cX4_load 38 = .ok (.iinc 3 1, 3) := by decide +kernel
theorem dX4_load_41 : decode cX4_load 41 = .ok (.goto (-35), 3) := by decide +kernel
theorem dX4_load_44 : decode cX4_load 44 = .ok (.iload_n 2, 1) := by decide +kernel
theorem dX4_load_45 : decode cX4_load 45 = .ok (.ifCond .ne 13, 3) := by decide +kernel
theorem dX4_load_48 : decode cX4_load 48 = .ok (.new 239, 3) := by decide +kernel
theorem dX4_load_51 : decode cX4_load 51 = .ok (.dup, 1) := by decide +kernel
theorem dX4_load_52 : decode cX4_load 52 = .ok (.ldc 241, 2) := by decide +kernel
theorem dX4_load_54 : decode cX4_load 54 = .ok (.invokespecial 243, 3) := by decide +kernel
theorem dX4_load_57 : decode cX4_load 57 = .ok (.athrow, 1) := by decide +kernel
theorem dX4_load_58 : decode cX4_load 58 = .ok (.iload_n 1, 1) := by decide +kernel
theorem dX4_load_59 : decode cX4_load 59 = .ok (.i2f, 1) := by decide +kernel
theorem dX4_load_60 : decode cX4_load 60 = .ok (.iload_n 2, 1) := by decide +kernel
theorem dX4_load_61 : decode cX4_load 61 = .ok (.i2f, 1) := by decide +kernel
theorem dX4_load_62 : decode cX4_load 62 = .ok (.fdiv, 1) := by decide +kernel
theorem dX4_load_63 : decode cX4_load 63 = .ok (.freturn, 1) := by decide +kernel
theorem dX4_meanValue_0 : decode cX4_meanValue 0 = .ok (.iconst 0, 1) := by decide +kernel
theorem dX4_meanValue_1 : decode cX4_meanValue 1 = .ok (.istore_n 1, 1) := by decide +kernel
theorem dX4_meanValue_2 : decode cX4_meanValue 2 = .ok (.iconst 0, 1) := by decide +kernel
theorem dX4_meanValue_3 : decode cX4_meanValue 3 = .ok (.istore_n 2, 1) := by decide +kernel
theorem dX4_meanValue_4 : decode cX4_meanValue 4 = .ok (.iconst 0, 1) := by decide +kernel
theorem dX4_meanValue_5 : decode cX4_meanValue 5 = .ok (.istore_n 3, 1) := by decide +kernel
theorem dX4_meanValue_6 : decode cX4_meanValue 6 = .ok (.iload_n 3, 1) := by decide +kernel
theorem dX4_meanValue_7 : decode cX4_meanValue 7 = .ok (.bipush 12, 2) := by decide +kernel
theorem dX4_meanValue_9 : decode cX4_meanValue 9 = .ok (.if_icmp .ge 31, 3) := by decide +kernel
theorem dX4_meanValue_12 : decode cX4_meanValue 12 = .ok (.aload_n 0, 1) := by decide +kernel
theorem dX4_meanValue_13 : decode cX4_meanValue 13 = .ok (.getfield 9, 3) := by decide +kernel
theorem dX4_meanValue_16 : decode cX4_meanValue 16 = .ok (.iload_n 3, 1) := by decide +kernel
theorem dX4_meanValue_17 : decode cX4_meanValue 17 = .ok (.iaload, 1) := by decide +kernel
theorem dX4_meanValue_18 : decode cX4_meanValue 18 = .ok (.iconst (-1), 1) := by decide +kernel
theorem dX4_meanValue_19 : decode cX4_meanValue 19 = .ok (.if_icmp .eq 15, 3) := by decide +kernel
theorem dX4_meanValue_22 : decode cX4_meanValue 22 = .ok (.iload_n 1, 1) := by decide +kernel
theorem dX4_meanValue_23 : decode cX4_meanValue 23 = .ok (.aload_n 0, 1) := by decide +kernel
theorem dX4_meanValue_24 : decode cX4_meanValue 24 = .ok (.getfield 9, 3) := by decide +kernel
theorem dX4_meanValue_27 : decode cX4_meanValue 27 = .ok (.iload_n 3, 1) := by decide +kernel
theorem dX4_meanValue_28 : decode cX4_meanValue 28 = .ok (.iaload, 1) := by decide +kernel
theorem dX4_meanValue_29 : decode cX4_meanValue 29 = .ok (.iadd, 1) := by decide +kernel
theorem dX4_meanValue_30 : decode cX4_meanValue 30 = .ok (.istore_n 1, 1) := by decide +kernel
theorem dX4_meanValue_31 : decode cX4_meanValue 31 = .ok (.iinc 2 1, 3) := by decide +kernel
theorem dX4_meanValue_34 : decode cX4_meanValue 34 = .ok (.iinc 3 1, 3) := by decide +kernel
theorem dX4_meanValue_37 : decode cX4_meanValue 37 = .ok (.goto (-31), 3) := by decide +kernel
theorem dX4_meanValue_40 : decode cX4_meanValue 40 = .ok (.iload_n 2, 1) := by decide +kernel
theorem dX4_meanValue_41 : decode cX4_meanValue 41 = .ok (.ifCond .ne 13, 3) := by decide +kernel
theorem dX4_meanValue_44 : decode cX4_meanValue 44 = .ok (.new 239, 3) := by decide +kernel
theorem dX4_meanValue_47 : decode cX4_meanValue 47 = .ok (.dup, 1) := by decide +kernel
theorem dX4_meanValue_48 : decode cX4_meanValue 48 = .ok (.ldc 244, 2) := by decide +kernel
theorem dX4_meanValue_50 : decode cX4_meanValue 50 = .ok (.invokespecial 243, 3) := by decide +kernel
theorem dX4_meanValue_53 : decode cX4_meanValue 53 = .ok (.athrow, 1) := by decide +kernel
theorem dX4_meanValue_54 : decode cX4_meanValue 54 = .ok (.iload_n 1, 1) := by decide +kernel
theorem dX4_meanValue_55 : decode cX4_meanValue 55 = .ok (.i2d, 1) := by decide +kernel
theorem dX4_meanValue_56 : decode cX4_meanValue 56 = .ok (.iload_n 2, 1) := by decide +kernel
theorem dX4_meanValue_57 : decode cX4_meanValue 57 = .ok (.i2d, 1) := by decide +kernel
theorem dX4_meanValue_58 : decode cX4_meanValue 58 = .ok (.ddiv, 1) := by decide +kernel
theorem dX4_meanValue_59 : decode cX4_meanValue 59 = .ok (.dreturn, 1) := by decide +kernel
theorem dX4_publish_0 : decode cX4_publish 0 = .ok (.aload_n 0, 1) := by decide +kernel
theorem dX4_publish_1 : decode cX4_publish 1 = .ok (.iload_n 1, 1) := by decide +kernel
theorem dX4_publish_2 : decode cX4_publish 2 = .ok (.invokevirtual 125, 3) := by decide +kernel
theorem dX4_publish_5 : decode cX4_publish 5 = .ok (.astore_n 2, 1) := by decide +kernel
theorem dX4_publish_6 : decode cX4_publish 6 = .ok (.aload_n 0, 1) := by decide +kernel
theorem dX4_publish_7 : decode cX4_publish 7 = .ok (.iload_n 1, 1) := by decide +kernel
theorem dX4_publish_8 : decode cX4_publish 8 = .ok (.invokevirtual 155, 3) := by decide +kernel
theorem dX4_publish_11 : decode cX4_publish 11 = .ok (.ifCond .eq 12, 3) := by decide +kernel
theorem dX4_publish_14 : decode cX4_publish 14 = .ok (.aload_n 0, 1) := by decide +kernel
theorem dX4_publish_15 : decode cX4_publish 15 = .ok (.getfield 246, 3) := by decide +kernel
theorem dX4_publish_18 : decode cX4_publish 18 = .ok (.bipush 20, 2) := by decide +kernel
theorem dX4_publish_20 : decode cX4_publish 20 = .ok (.if_icmp .lt 13, 3) := by decide +kernel
theorem dX4_publish_23 : decode cX4_publish 23 = .ok (.new 60, 3) := by decide +kernel
theorem dX4_publish_26 : decode cX4_publish 26 = .ok (.dup, 1) := by decide +kernel
theorem dX4_publish_27 : decode cX4_publish 27 = .ok (.ldc 249, 2) := by decide +kernel
theorem dX4_publish_29 : decode cX4_publish 29 = .ok (.invokespecial 64, 3) := by decide +kernel
theorem dX4_publish_32 : decode cX4_publish 32 = .ok (.athrow, 1) := by decide +kernel
theorem dX4_publish_33 : decode cX4_publish 33 = .ok (.aload_n 0, 1) := by decide +kernel
theorem dX4_publish_34 : decode cX4_publish 34 = .ok (.getfield 246, 3) := by decide +kernel
theorem dX4_publish_37 : decode cX4_publish 37 = .ok (.istore_n 3, 1) := by decide +kernel
theorem dX4_publish_38 : decode cX4_publish 38 = .ok (.aload_n 0, 1) := by decide +kernel
theorem dX4_publish_39 : decode cX4_publish 39 = .ok (.getfield 34, 3) := by decide +kernel
theorem dX4_publish_42 : decode cX4_publish 42 = .ok (.iload_n 3, 1) := by decide +kernel
theorem dX4_publish_43 : decode cX4_publish 43 = .ok (.iload_n 1, 1) := by decide +kernel
theorem dX4_publish_44 : decode cX4_publish 44 = .ok (.iastore, 1) := by decide +kernel
theorem dX4_publish_45 : decode cX4_publish 45 = .ok (.aload_n 0, 1) := by decide +kernel
theorem dX4_publish_46 : decode cX4_publish 46 = .ok (.getfield 37, 3) := by decide +kernel
theorem dX4_publish_49 : decode cX4_publish 49 = .ok (.iload_n 3, 1) := by decide +kernel
theorem dX4_publish_50 : decode cX4_publish 50 = .ok (.aload_n 0, 1) := by decide +kernel
theorem dX4_publish_51 : decode cX4_publish 51 = .ok (.getfield 9, 3) := by decide +kernel
theorem dX4_publish_54 : decode cX4_publish 54 = .ok (.aload_n 2, 1) := by decide +kernel
theorem dX4_publish_55 : decode cX4_publish 55 = .ok (.getfield 109, 3) := by decide +kernel
theorem dX4_publish_58 : decode cX4_publish 58 = .ok (.iaload, 1) := by decide +kernel
theorem dX4_publish_59 : decode cX4_publish 59 = .ok (.iastore, 1) := by decide +kernel
theorem dX4_publish_60 : decode cX4_publish 60 = .ok (.aload_n 0, 1) := by decide +kernel
theorem dX4_publish_61 : decode cX4_publish 61 = .ok (.dup, 1) := by decide +kernel
theorem dX4_publish_62 : decode cX4_publish 62 = .ok (.getfield 246, 3) := by decide +kernel
theorem dX4_publish_65 : decode cX4_publish 65 = .ok (.iconst 1, 1) := by decide +kernel
theorem dX4_publish_66 : decode cX4_publish 66 = .ok (.iadd, 1) := by decide +kernel
theorem dX4_publish_67 : decode cX4_publish 67 = .ok (.putfield 246, 3) := by decide +kernel
theorem dX4_publish_70 : decode cX4_publish 70 = .ok (.iload_n 3, 1) := by decide +kernel
theorem dX4_publish_71 : decode cX4_publish 71 = .ok (.ireturn, 1) := by decide +kernel
theorem dX4_held_0 : decode cX4_held 0 = .ok (.aload_n 0, 1) := by decide +kernel
theorem dX4_held_1 : decode cX4_held 1 = .ok (.iload_n 1, 1) := by decide +kernel
theorem dX4_held_2 : decode cX4_held 2 = .ok (.invokevirtual 251, 3) := by decide +kernel
theorem dX4_held_5 : decode cX4_held 5 = .ok (.aload_n 0, 1) := by decide +kernel
theorem dX4_held_6 : decode cX4_held 6 = .ok (.getfield 37, 3) := by decide +kernel
theorem dX4_held_9 : decode cX4_held 9 = .ok (.iload_n 1, 1) := by decide +kernel
theorem dX4_held_10 : decode cX4_held 10 = .ok (.iaload, 1) := by decide +kernel
theorem dX4_held_11 : decode cX4_held 11 = .ok (.ireturn, 1) := by decide +kernel
theorem dX4_isCurrent_0 : decode cX4_isCurrent 0 = .ok (.aload_n 0, 1) := by decide +kernel
theorem dX4_isCurrent_1 : decode cX4_isCurrent 1 = .ok (.iload_n 1, 1) := by decide +kernel
theorem dX4_isCurrent_2 : decode cX4_isCurrent 2 = .ok (.invokevirtual 251, 3) := by decide +kernel
theorem dX4_isCurrent_5 : decode cX4_isCurrent 5 = .ok (.aload_n 0, 1) := by decide +kernel
theorem dX4_isCurrent_6 : decode cX4_isCurrent 6 = .ok (.getfield 34, 3) := by decide +kernel
theorem dX4_isCurrent_9 : decode cX4_isCurrent 9 = .ok (.iload_n 1, 1) := by decide +kernel
theorem dX4_isCurrent_10 : decode cX4_isCurrent 10 = .ok (.iaload, 1) := by decide +kernel
theorem dX4_isCurrent_11 : decode cX4_isCurrent 11 = .ok (.istore_n 2, 1) := by decide +kernel
theorem dX4_isCurrent_12 : decode cX4_isCurrent 12 = .ok (.aload_n 0, 1) := by decide +kernel
theorem dX4_isCurrent_13 : decode cX4_isCurrent 13 = .ok (.iload_n 2, 1) := by decide +kernel
theorem dX4_isCurrent_14 : decode cX4_isCurrent 14 = .ok (.invokevirtual 155, 3) := by decide +kernel
theorem dX4_isCurrent_17 : decode cX4_isCurrent 17 = .ok (.ifCond .eq 30, 3) := by decide +kernel
theorem dX4_isCurrent_20 : decode cX4_isCurrent 20 = .ok (.aload_n 0, 1) := by decide +kernel
theorem dX4_isCurrent_21 : decode cX4_isCurrent 21 = .ok (.getfield 9, 3) := by decide +kernel
theorem dX4_isCurrent_24 : decode cX4_isCurrent 24 = .ok (.aload_n 0, 1) := by decide +kernel
theorem dX4_isCurrent_25 : decode cX4_isCurrent 25 = .ok (.getfield 24, 3) := by decide +kernel
theorem dX4_isCurrent_28 : decode cX4_isCurrent 28 = .ok (.iload_n 2, 1) := by decide +kernel
theorem dX4_isCurrent_29 : decode cX4_isCurrent 29 = .ok (.aaload, 1) := by decide +kernel
theorem dX4_isCurrent_30 : decode cX4_isCurrent 30 = .ok (.getfield 109, 3) := by decide +kernel
theorem dX4_isCurrent_33 : decode cX4_isCurrent 33 = .ok (.iaload, 1) := by decide +kernel
theorem dX4_isCurrent_34 : decode cX4_isCurrent 34 = .ok (.aload_n 0, 1) := by decide +kernel
theorem dX4_isCurrent_35 : decode cX4_isCurrent 35 = .ok (.getfield 37, 3) := by decide +kernel
theorem dX4_isCurrent_38 : decode cX4_isCurrent 38 = .ok (.iload_n 1, 1) := by decide +kernel
theorem dX4_isCurrent_39 : decode cX4_isCurrent 39 = .ok (.iaload, 1) := by decide +kernel
theorem dX4_isCurrent_40 : decode cX4_isCurrent 40 = .ok (.if_icmp .ne 7, 3) := by decide +kernel
theorem dX4_isCurrent_43 : decode cX4_isCurrent 43 = .ok (.iconst 1, 1) := by decide +kernel
theorem dX4_isCurrent_44 : decode cX4_isCurrent 44 = .ok (.goto 4, 3) := by decide +kernel
theorem dX4_isCurrent_47 : decode cX4_isCurrent 47 = .ok (.iconst 0, 1) := by decide +kernel
theorem dX4_isCurrent_48 : decode cX4_isCurrent 48 = .ok (.ireturn, 1) := by decide +kernel
theorem dX4_isSound_0 : decode cX4_isSound 0 = .ok (.aload_n 0, 1) := by decide +kernel
theorem dX4_isSound_1 : decode cX4_isSound 1 = .ok (.invokevirtual 254, 3) := by decide +kernel
theorem dX4_isSound_4 : decode cX4_isSound 4 = .ok (.ifCond .eq 21, 3) := by decide +kernel
theorem dX4_isSound_7 : decode cX4_isSound 7 = .ok (.aload_n 0, 1) := by decide +kernel
theorem dX4_isSound_8 : decode cX4_isSound 8 = .ok (.invokevirtual 258, 3) := by decide +kernel
theorem dX4_isSound_11 : decode cX4_isSound 11 = .ok (.ifCond .eq 14, 3) := by decide +kernel
theorem dX4_isSound_14 : decode cX4_isSound 14 = .ok (.aload_n 0, 1) := by decide +kernel
theorem dX4_isSound_15 : decode cX4_isSound 15 = .ok (.invokevirtual 261, 3) := by decide +kernel
theorem dX4_isSound_18 : decode cX4_isSound 18 = .ok (.ifCond .eq 7, 3) := by decide +kernel
theorem dX4_isSound_21 : decode cX4_isSound 21 = .ok (.iconst 1, 1) := by decide +kernel
theorem dX4_isSound_22 : decode cX4_isSound 22 = .ok (.goto 4, 3) := by decide +kernel
theorem dX4_isSound_25 : decode cX4_isSound 25 = .ok (.iconst 0, 1) := by decide +kernel
theorem dX4_isSound_26 : decode cX4_isSound 26 = .ok (.ireturn, 1) := by decide +kernel
theorem dX4_isWithin_0 : decode cX4_isWithin 0 = .ok (.iload_n 0, 1) := by decide +kernel
theorem dX4_isWithin_1 : decode cX4_isWithin 1 = .ok (.iload_n 1, 1) := by decide +kernel
theorem dX4_isWithin_2 : decode cX4_isWithin 2 = .ok (.if_icmp .lt 12, 3) := by decide +kernel
theorem dX4_isWithin_5 : decode cX4_isWithin 5 = .ok (.iload_n 0, 1) := by decide +kernel
theorem dX4_isWithin_6 : decode cX4_isWithin 6 = .ok (.iload_n 2, 1) := by decide +kernel
theorem dX4_isWithin_7 : decode cX4_isWithin 7 = .ok (.if_icmp .gt 7, 3) := by decide +kernel
theorem dX4_isWithin_10 : decode cX4_isWithin 10 = .ok (.iconst 1, 1) := by decide +kernel
theorem dX4_isWithin_11 : decode cX4_isWithin 11 = .ok (.goto 4, 3) := by decide +kernel
theorem dX4_isWithin_14 : decode cX4_isWithin 14 = .ok (.iconst 0, 1) := by decide +kernel
theorem dX4_isWithin_15 : decode cX4_isWithin 15 = .ok (.ireturn, 1) := by decide +kernel
theorem dX4_isVariable_0 : decode cX4_isVariable 0 = .ok (.iload_n 0, 1) := by decide +kernel
theorem dX4_isVariable_1 : decode cX4_isVariable 1 = .ok (.iconst 0, 1) := by decide +kernel
theorem dX4_isVariable_2 : decode cX4_isVariable 2 = .ok (.bipush 11, 2) := by decide +kernel
theorem dX4_isVariable_4 : decode cX4_isVariable 4 = .ok (.invokestatic 46, 3) := by decide +kernel
theorem dX4_isVariable_7 : decode cX4_isVariable 7 = .ok (.ireturn, 1) := by decide +kernel
theorem dX4_isKind_0 : decode cX4_isKind 0 = .ok (.iload_n 0, 1) := by decide +kernel
theorem dX4_isKind_1 : decode cX4_isKind 1 = .ok (.bipush 43, 2) := by decide +kernel
theorem dX4_isKind_3 : decode cX4_isKind 3 = .ok (.if_icmp .eq 21, 3) := by decide +kernel
theorem dX4_isKind_6 : decode cX4_isKind 6 = .ok (.iload_n 0, 1) := by decide +kernel
theorem dX4_isKind_7 : decode cX4_isKind 7 = .ok (.bipush 42, 2) := by decide +kernel
theorem dX4_isKind_9 : decode cX4_isKind 9 = .ok (.if_icmp .eq 15, 3) := by decide +kernel
theorem dX4_isKind_12 : decode cX4_isKind 12 = .ok (.iload_n 0, 1) := by decide +kernel
theorem dX4_isKind_13 : decode cX4_isKind 13 = .ok (.bipush 45, 2) := by decide +kernel
theorem dX4_isKind_15 : decode cX4_isKind 15 = .ok (.if_icmp .eq 9, 3) := by decide +kernel
theorem dX4_isKind_18 : decode cX4_isKind 18 = .ok (.iload_n 0, 1) := by decide +kernel
theorem dX4_isKind_19 : decode cX4_isKind 19 = .ok (.bipush 47, 2) := by decide +kernel
theorem dX4_isKind_21 : decode cX4_isKind 21 = .ok (.if_icmp .ne 7, 3) := by decide +kernel
theorem dX4_isKind_24 : decode cX4_isKind 24 = .ok (.iconst 1, 1) := by decide +kernel
theorem dX4_isKind_25 : decode cX4_isKind 25 = .ok (.goto 4, 3) := by decide +kernel
theorem dX4_isKind_28 : decode cX4_isKind 28 = .ok (.iconst 0, 1) := by decide +kernel
theorem dX4_isKind_29 : decode cX4_isKind 29 = .ok (.ireturn, 1) := by decide +kernel
theorem dX4_isData_0 : decode cX4_isData 0 = .ok (.aload_n 0, 1) := by decide +kernel
theorem dX4_isData_1 : decode cX4_isData 1 = .ok (.getfield 13, 3) := by decide +kernel
theorem dX4_isData_4 : decode cX4_isData 4 = .ok (.iload_n 1, 1) := by decide +kernel
theorem dX4_isData_5 : decode cX4_isData 5 = .ok (.iaload, 1) := by decide +kernel
theorem dX4_isData_6 : decode cX4_isData 6 = .ok (.iconst (-1), 1) := by decide +kernel
theorem dX4_isData_7 : decode cX4_isData 7 = .ok (.if_icmp .eq 7, 3) := by decide +kernel
theorem dX4_isData_10 : decode cX4_isData 10 = .ok (.iconst 1, 1) := by decide +kernel
theorem dX4_isData_11 : decode cX4_isData 11 = .ok (.goto 4, 3) := by decide +kernel
theorem dX4_isData_14 : decode cX4_isData 14 = .ok (.iconst 0, 1) := by decide +kernel
theorem dX4_isData_15 : decode cX4_isData 15 = .ok (.ireturn, 1) := by decide +kernel
theorem dX4_isDefined_0 : decode cX4_isDefined 0 = .ok (.aload_n 0, 1) := by decide +kernel
theorem dX4_isDefined_1 : decode cX4_isDefined 1 = .ok (.iload_n 1, 1) := by decide +kernel
theorem dX4_isDefined_2 : decode cX4_isDefined 2 = .ok (.invokevirtual 193, 3) := by decide +kernel
theorem dX4_isDefined_5 : decode cX4_isDefined 5 = .ok (.ifCond .ne 13, 3) := by decide +kernel
theorem dX4_isDefined_8 : decode cX4_isDefined 8 = .ok (.aload_n 0, 1) := by decide +kernel
theorem dX4_isDefined_9 : decode cX4_isDefined 9 = .ok (.getfield 16, 3) := by decide +kernel
theorem dX4_isDefined_12 : decode cX4_isDefined 12 = .ok (.iload_n 1, 1) := by decide +kernel
theorem dX4_isDefined_13 : decode cX4_isDefined 13 = .ok (.iaload, 1) := by decide +kernel
theorem dX4_isDefined_14 : decode cX4_isDefined 14 = .ok (.iconst (-1), 1) := by decide +kernel
theorem dX4_isDefined_15 : decode cX4_isDefined 15 = .ok (.if_icmp .eq 7, 3) := by decide +kernel
theorem dX4_isDefined_18 : decode cX4_isDefined 18 = .ok (.iconst 1, 1) := by decide +kernel
theorem dX4_isDefined_19 : decode cX4_isDefined 19 = .ok (.goto 4, 3) := by decide +kernel
theorem dX4_isDefined_22 : decode cX4_isDefined 22 = .ok (.iconst 0, 1) := by decide +kernel
theorem dX4_isDefined_23 : decode cX4_isDefined 23 = .ok (.ireturn, 1) := by decide +kernel
theorem dX4_checkVariable_0 : decode cX4_checkVariable 0 = .ok (.iload_n 0, 1) := by decide +kernel
theorem dX4_checkVariable_1 : decode cX4_checkVariable 1 = .ok (.invokestatic 42, 3) := by decide +kernel
theorem dX4_checkVariable_4 : decode cX4_checkVariable 4 = .ok (.ifCond .ne 14, 3) := by decide +kernel
theorem dX4_checkVariable_7 : decode cX4_checkVariable 7 = .ok (.new 50, 3) := by decide +kernel
theorem dX4_checkVariable_10 : decode cX4_checkVariable 10 = .ok (.dup, 1) := by decide +kernel
theorem dX4_checkVariable_11 : decode cX4_checkVariable 11 = .ok (.ldc_w 264, 3) := by decide +kernel
theorem dX4_checkVariable_14 : decode cX4_checkVariable 14 = .ok (.invokespecial 54, 3) := by decide +kernel
theorem dX4_checkVariable_17 : decode cX4_checkVariable 17 = .ok (.athrow, 1) := by decide +kernel
theorem dX4_checkVariable_18 : decode cX4_checkVariable 18 = .ok (.return_, 1) := by decide +kernel
theorem dX4_checkData_0 : decode cX4_checkData 0 = .ok (.aload_n 0, 1) := by decide +kernel
theorem dX4_checkData_1 : decode cX4_checkData 1 = .ok (.iload_n 1, 1) := by decide +kernel
theorem dX4_checkData_2 : decode cX4_checkData 2 = .ok (.invokevirtual 193, 3) := by decide +kernel
theorem dX4_checkData_5 : decode cX4_checkData 5 = .ok (.ifCond .ne 14, 3) := by decide +kernel
theorem dX4_checkData_8 : decode cX4_checkData 8 = .ok (.new 131, 3) := by decide +kernel
theorem dX4_checkData_11 : decode cX4_checkData 11 = .ok (.dup, 1) := by decide +kernel
theorem dX4_checkData_12 : decode cX4_checkData 12 = .ok (.ldc_w 266, 3) := by decide +kernel
theorem dX4_checkData_15 : decode cX4_checkData 15 = .ok (.invokespecial 133, 3) := by decide +kernel
theorem dX4_checkData_18 : decode cX4_checkData 18 = .ok (.athrow, 1) := by decide +kernel
theorem dX4_checkData_19 : decode cX4_checkData 19 = .ok (.return_, 1) := by decide +kernel
theorem dX4_checkView_0 : decode cX4_checkView 0 = .ok (.iload_n 1, 1) := by decide +kernel
theorem dX4_checkView_1 : decode cX4_checkView 1 = .ok (.iconst 0, 1) := by decide +kernel
theorem dX4_checkView_2 : decode cX4_checkView 2 = .ok (.aload_n 0, 1) := by decide +kernel
theorem dX4_checkView_3 : decode cX4_checkView 3 = .ok (.getfield 246, 3) := by decide +kernel
theorem dX4_checkView_6 : decode cX4_checkView 6 = .ok (.iconst 1, 1) := by decide +kernel
theorem dX4_checkView_7 : decode cX4_checkView 7 = .ok (.isub, 1) := by decide +kernel
theorem dX4_checkView_8 : decode cX4_checkView 8 = .ok (.invokestatic 46, 3) := by decide +kernel
theorem dX4_checkView_11 : decode cX4_checkView 11 = .ok (.ifCond .ne 14, 3) := by decide +kernel
theorem dX4_checkView_14 : decode cX4_checkView 14 = .ok (.new 131, 3) := by decide +kernel
theorem dX4_checkView_17 : decode cX4_checkView 17 = .ok (.dup, 1) := by decide +kernel
theorem dX4_checkView_18 : decode cX4_checkView 18 = .ok (.ldc_w 268, 3) := by decide +kernel
theorem dX4_checkView_21 : decode cX4_checkView 21 = .ok (.invokespecial 133, 3) := by decide +kernel
theorem dX4_checkView_24 : decode cX4_checkView 24 = .ok (.athrow, 1) := by decide +kernel
theorem dX4_checkView_25 : decode cX4_checkView 25 = .ok (.return_, 1) := by decide +kernel
theorem dX4_cellAt_0 : decode cX4_cellAt 0 = .ok (.iload_n 1, 1) := by decide +kernel
theorem dX4_cellAt_1 : decode cX4_cellAt 1 = .ok (.iconst 0, 1) := by decide +kernel
theorem dX4_cellAt_2 : decode cX4_cellAt 2 = .ok (.aload_n 0, 1) := by decide +kernel
theorem dX4_cellAt_3 : decode cX4_cellAt 3 = .ok (.getfield 91, 3) := by decide +kernel
theorem dX4_cellAt_6 : decode cX4_cellAt 6 = .ok (.iconst 1, 1) := by decide +kernel
theorem dX4_cellAt_7 : decode cX4_cellAt 7 = .ok (.isub, 1) := by decide +kernel
theorem dX4_cellAt_8 : decode cX4_cellAt 8 = .ok (.invokestatic 46, 3) := by decide +kernel
theorem dX4_cellAt_11 : decode cX4_cellAt 11 = .ok (.ifCond .ne 14, 3) := by decide +kernel
theorem dX4_cellAt_14 : decode cX4_cellAt 14 = .ok (.new 206, 3) := by decide +kernel
theorem dX4_cellAt_17 : decode cX4_cellAt 17 = .ok (.dup, 1) := by decide +kernel
theorem dX4_cellAt_18 : decode cX4_cellAt 18 = .ok (.ldc_w 270, 3) := by decide +kernel
theorem dX4_cellAt_21 : decode cX4_cellAt 21 = .ok (.invokespecial 210, 3) := by decide +kernel
theorem dX4_cellAt_24 : decode cX4_cellAt 24 = .ok (.athrow, 1) := by decide +kernel
theorem dX4_cellAt_25 : decode cX4_cellAt 25 = .ok (.aload_n 0, 1) := by decide +kernel
theorem dX4_cellAt_26 : decode cX4_cellAt 26 = .ok (.getfield 24, 3) := by decide +kernel
theorem dX4_cellAt_29 : decode cX4_cellAt 29 = .ok (.iload_n 1, 1) := by decide +kernel
theorem dX4_cellAt_30 : decode cX4_cellAt 30 = .ok (.aaload, 1) := by decide +kernel
theorem dX4_cellAt_31 : decode cX4_cellAt 31 = .ok (.areturn, 1) := by decide +kernel
theorem dX4_failureOf_0 : decode cX4_failureOf 0 = .ok (.aload_n 0, 1) := by decide +kernel
theorem dX4_failureOf_1 : decode cX4_failureOf 1 = .ok (.iload_n 1, 1) := by decide +kernel
theorem dX4_failureOf_2 : decode cX4_failureOf 2 = .ok (.invokevirtual 125, 3) := by decide +kernel
theorem dX4_failureOf_5 : decode cX4_failureOf 5 = .ok (.astore_n 2, 1) := by decide +kernel
theorem dX4_failureOf_6 : decode cX4_failureOf 6 = .ok (.aload_n 2, 1) := by decide +kernel
theorem dX4_failureOf_7 : decode cX4_failureOf 7 = .ok (.getfield 152, 3) := by decide +kernel
theorem dX4_failureOf_10 : decode cX4_failureOf 10 = .ok (.iconst 2, 1) := by decide +kernel
theorem dX4_failureOf_11 : decode cX4_failureOf 11 = .ok (.if_icmp .eq 14, 3) := by decide +kernel
theorem dX4_failureOf_14 : decode cX4_failureOf 14 = .ok (.new 60, 3) := by decide +kernel
theorem dX4_failureOf_17 : decode cX4_failureOf 17 = .ok (.dup, 1) := by decide +kernel
theorem dX4_failureOf_18 : decode cX4_failureOf 18 = .ok (.ldc_w 272, 3) := by decide +kernel
theorem dX4_failureOf_21 : decode cX4_failureOf 21 = .ok (.invokespecial 64, 3) := by decide +kernel
theorem dX4_failureOf_24 : decode cX4_failureOf 24 = .ok (.athrow, 1) := by decide +kernel
theorem dX4_failureOf_25 : decode cX4_failureOf 25 = .ok (.aload_n 2, 1) := by decide +kernel
theorem dX4_failureOf_26 : decode cX4_failureOf 26 = .ok (.getfield 274, 3) := by decide +kernel
theorem dX4_failureOf_29 : decode cX4_failureOf 29 = .ok (.areturn, 1) := by decide +kernel
theorem dX4_bit_0 : decode cX4_bit 0 = .ok (.iconst 1, 1) := by decide +kernel
theorem dX4_bit_1 : decode cX4_bit 1 = .ok (.iload_n 0, 1) := by decide +kernel
theorem dX4_bit_2 : decode cX4_bit 2 = .ok (.ishl, 1) := by decide +kernel
theorem dX4_bit_3 : decode cX4_bit 3 = .ok (.ireturn, 1) := by decide +kernel
theorem dX4_hasBit_0 : decode cX4_hasBit 0 = .ok (.iload_n 0, 1) := by decide +kernel
theorem dX4_hasBit_1 : decode cX4_hasBit 1 = .ok (.iload_n 1, 1) := by decide +kernel
theorem dX4_hasBit_2 : decode cX4_hasBit 2 = .ok (.invokestatic 144, 3) := by decide +kernel
theorem dX4_hasBit_5 : decode cX4_hasBit 5 = .ok (.iand, 1) := by decide +kernel
theorem dX4_hasBit_6 : decode cX4_hasBit 6 = .ok (.ifCond .eq 7, 3) := by decide +kernel
theorem dX4_hasBit_9 : decode cX4_hasBit 9 = .ok (.iconst 1, 1) := by decide +kernel
theorem dX4_hasBit_10 : decode cX4_hasBit 10 = .ok (.goto 4, 3) := by decide +kernel
theorem dX4_hasBit_13 : decode cX4_hasBit 13 = .ok (.iconst 0, 1) := by decide +kernel
theorem dX4_hasBit_14 : decode cX4_hasBit 14 = .ok (.ireturn, 1) := by decide +kernel
theorem dX4_lineageThrough_0 : decode cX4_lineageThrough 0 = .ok (.aload_n 0, 1) := by decide +kernel
theorem dX4_lineageThrough_1 : decode cX4_lineageThrough 1 = .ok (.getfield 16, 3) := by decide +kernel
theorem dX4_lineageThrough_4 : decode cX4_lineageThrough 4 = .ok (.iload_n 1, 1) := by decide +kernel
theorem dX4_lineageThrough_5 : decode cX4_lineageThrough 5 = .ok (.iaload, 1) := by decide +kernel
theorem dX4_lineageThrough_6 : decode cX4_lineageThrough 6 = .ok (.istore_n 2, 1) := by decide +kernel
theorem dX4_lineageThrough_7 : decode cX4_lineageThrough 7 = .ok (.iload_n 1, 1) := by decide +kernel
theorem dX4_lineageThrough_8 : decode cX4_lineageThrough 8 = .ok (.invokestatic 144, 3) := by decide +kernel
theorem dX4_lineageThrough_11 : decode cX4_lineageThrough 11 = .ok (.iload_n 2, 1) := by decide +kernel
theorem dX4_lineageThrough_12 : decode cX4_lineageThrough 12 = .ok (.iconst (-1), 1) := by decide +kernel
theorem dX4_lineageThrough_13 : decode cX4_lineageThrough 13 = .ok (.if_icmp .ne 7, 3) := by decide +kernel
theorem dX4_lineageThrough_16 : decode cX4_lineageThrough 16 = .ok (.iconst 0, 1) := by decide +kernel
theorem dX4_lineageThrough_17 : decode cX4_lineageThrough 17 = .ok (.goto 12, 3) := by decide +kernel
theorem dX4_lineageThrough_20 : decode cX4_lineageThrough 20 = .ok (.aload_n 0, 1) := by decide +kernel
theorem dX4_lineageThrough_21 : decode cX4_lineageThrough 21 = .ok (.getfield 24, 3) := by decide +kernel
theorem dX4_lineageThrough_24 : decode cX4_lineageThrough 24 = .ok (.iload_n 2, 1) := by decide +kernel
theorem dX4_lineageThrough_25 : decode cX4_lineageThrough 25 = .ok (.aaload, 1) := by decide +kernel
theorem dX4_lineageThrough_26 : decode cX4_lineageThrough 26 = .ok (.getfield 122, 3) := by decide +kernel
theorem dX4_lineageThrough_29 : decode cX4_lineageThrough 29 = .ok (.ior, 1) := by decide +kernel
theorem dX4_lineageThrough_30 : decode cX4_lineageThrough 30 = .ok (.ireturn, 1) := by decide +kernel
theorem dX4_freshCells_0 : decode cX4_freshCells 0 = .ok (.iconst 0, 1) := by decide +kernel
theorem dX4_freshCells_1 : decode cX4_freshCells 1 = .ok (.istore_n 1, 1) := by decide +kernel
theorem dX4_freshCells_2 : decode cX4_freshCells 2 = .ok (.iconst 0, 1) := by decide +kernel
theorem dX4_freshCells_3 : decode cX4_freshCells 3 = .ok (.istore_n 2, 1) := by decide +kernel
theorem dX4_freshCells_4 : decode cX4_freshCells 4 = .ok (.iload_n 2, 1) := by decide +kernel
theorem dX4_freshCells_5 : decode cX4_freshCells 5 = .ok (.aload_n 0, 1) := by decide +kernel
theorem dX4_freshCells_6 : decode cX4_freshCells 6 = .ok (.getfield 91, 3) := by decide +kernel
theorem dX4_freshCells_9 : decode cX4_freshCells 9 = .ok (.if_icmp .ge 30, 3) := by decide +kernel
theorem dX4_freshCells_12 : decode cX4_freshCells 12 = .ok (.aload_n 0, 1) := by decide +kernel
theorem dX4_freshCells_13 : decode cX4_freshCells 13 = .ok (.aload_n 0, 1) := by decide +kernel
theorem dX4_freshCells_14 : decode cX4_freshCells 14 = .ok (.getfield 24, 3) := by decide +kernel
theorem dX4_freshCells_17 : decode cX4_freshCells 17 = .ok (.iload_n 2, 1) := by decide +kernel
theorem dX4_freshCells_18 : decode cX4_freshCells 18 = .ok (.aaload, 1) := by decide +kernel
theorem dX4_freshCells_19 : decode cX4_freshCells 19 = .ok (.iload_n 1, 1) := by decide +kernel
theorem dX4_freshCells_20 : decode cX4_freshCells 20 = .ok (.invokevirtual 140, 3) := by decide +kernel
theorem dX4_freshCells_23 : decode cX4_freshCells 23 = .ok (.ifCond .eq 10, 3) := by decide +kernel
theorem dX4_freshCells_26 : decode cX4_freshCells 26 = .ok (.iload_n 1, 1) := by decide +kernel
theorem dX4_freshCells_27 : decode cX4_freshCells 27 = .ok (.iload_n 2, 1) := by decide +kernel
theorem dX4_freshCells_28 : decode cX4_freshCells 28 = .ok (.invokestatic 144, 3) := by decide +kernel
theorem dX4_freshCells_31 : decode cX4_freshCells 31 = .ok (.ior, 1) := by decide +kernel
theorem dX4_freshCells_32 : decode cX4_freshCells 32 = .ok (.istore_n 1, 1) := by decide +kernel
theorem dX4_freshCells_33 : decode cX4_freshCells 33 = .ok (.iinc 2 1, 3) := by decide +kernel
theorem dX4_freshCells_36 : decode cX4_freshCells 36 = .ok (.goto (-32), 3) := by decide +kernel
theorem dX4_freshCells_39 : decode cX4_freshCells 39 = .ok (.iload_n 1, 1) := by decide +kernel
theorem dX4_freshCells_40 : decode cX4_freshCells 40 = .ok (.ireturn, 1) := by decide +kernel
theorem dX4_isFresh_0 : decode cX4_isFresh 0 = .ok (.aload_n 0, 1) := by decide +kernel
theorem dX4_isFresh_1 : decode cX4_isFresh 1 = .ok (.invokevirtual 163, 3) := by decide +kernel
theorem dX4_isFresh_4 : decode cX4_isFresh 4 = .ok (.iload_n 1, 1) := by decide +kernel
theorem dX4_isFresh_5 : decode cX4_isFresh 5 = .ok (.invokestatic 189, 3) := by decide +kernel
theorem dX4_isFresh_8 : decode cX4_isFresh 8 = .ok (.ireturn, 1) := by decide +kernel
theorem dX4_isUpToDate_0 : decode cX4_isUpToDate 0 = .ok (.aload_n 1, 1) := by decide +kernel
theorem dX4_isUpToDate_1 : decode cX4_isUpToDate 1 = .ok (.getfield 152, 3) := by decide +kernel
theorem dX4_isUpToDate_4 : decode cX4_isUpToDate 4 = .ok (.iconst 1, 1) := by decide +kernel
theorem dX4_isUpToDate_5 : decode cX4_isUpToDate 5 = .ok (.if_icmp .ne 58, 3) := by decide +kernel
theorem dX4_isUpToDate_8 : decode cX4_isUpToDate 8 = .ok (.aload_n 1, 1) := by decide +kernel
theorem dX4_isUpToDate_9 : decode cX4_isUpToDate 9 = .ok (.getfield 106, 3) := by decide +kernel
theorem dX4_isUpToDate_12 : decode cX4_isUpToDate 12 = .ok (.aload_n 1, 1) := by decide +kernel
theorem dX4_isUpToDate_13 : decode cX4_isUpToDate 13 = .ok (.getfield 278, 3) := by decide +kernel
theorem dX4_isUpToDate_16 : decode cX4_isUpToDate 16 = .ok (.if_icmp .ne 47, 3) := by decide +kernel
theorem dX4_isUpToDate_19 : decode cX4_isUpToDate 19 = .ok (.aload_n 0, 1) := by decide +kernel
theorem dX4_isUpToDate_20 : decode cX4_isUpToDate 20 = .ok (.aload_n 1, 1) := by decide +kernel
theorem dX4_isUpToDate_21 : decode cX4_isUpToDate 21 = .ok (.getfield 100, 3) := by decide +kernel
theorem dX4_isUpToDate_24 : decode cX4_isUpToDate 24 = .ok (.aload_n 1, 1) := by decide +kernel
theorem dX4_isUpToDate_25 : decode cX4_isUpToDate 25 = .ok (.getfield 281, 3) := by decide +kernel
theorem dX4_isUpToDate_28 : decode cX4_isUpToDate 28 = .ok (.iload_n 2, 1) := by decide +kernel
theorem dX4_isUpToDate_29 : decode cX4_isUpToDate 29 = .ok (.invokevirtual 284, 3) := by decide +kernel
theorem dX4_isUpToDate_32 : decode cX4_isUpToDate 32 = .ok (.ifCond .eq 31, 3) := by decide +kernel
theorem dX4_isUpToDate_35 : decode cX4_isUpToDate 35 = .ok (.aload_n 1, 1) := by decide +kernel
theorem dX4_isUpToDate_36 : decode cX4_isUpToDate 36 = .ok (.getfield 103, 3) := by decide +kernel
theorem dX4_isUpToDate_39 : decode cX4_isUpToDate 39 = .ok (.iconst (-1), 1) := by decide +kernel
theorem dX4_isUpToDate_40 : decode cX4_isUpToDate 40 = .ok (.if_icmp .eq 19, 3) := by decide +kernel
theorem dX4_isUpToDate_43 : decode cX4_isUpToDate 43 = .ok (.aload_n 0, 1) := by decide +kernel
theorem dX4_isUpToDate_44 : decode cX4_isUpToDate 44 = .ok (.aload_n 1, 1) := by decide +kernel
theorem dX4_isUpToDate_45 : decode cX4_isUpToDate 45 = .ok (.getfield 103, 3) := by decide +kernel
theorem dX4_isUpToDate_48 : decode cX4_isUpToDate 48 = .ok (.aload_n 1, 1) := by decide +kernel
theorem dX4_isUpToDate_49 : decode cX4_isUpToDate 49 = .ok (.getfield 287, 3) := by decide +kernel
theorem dX4_isUpToDate_52 : decode cX4_isUpToDate 52 = .ok (.iload_n 2, 1) := by decide +kernel
theorem dX4_isUpToDate_53 : decode cX4_isUpToDate 53 = .ok (.invokevirtual 284, 3) := by decide +kernel
theorem dX4_isUpToDate_56 : decode cX4_isUpToDate 56 = .ok (.ifCond .eq 7, 3) := by decide +kernel
theorem dX4_isUpToDate_59 : decode cX4_isUpToDate 59 = .ok (.iconst 1, 1) := by decide +kernel
theorem dX4_isUpToDate_60 : decode cX4_isUpToDate 60 = .ok (.goto 4, 3) := by decide +kernel
theorem dX4_isUpToDate_63 : decode cX4_isUpToDate 63 = .ok (.iconst 0, 1) := by decide +kernel
theorem dX4_isUpToDate_64 : decode cX4_isUpToDate 64 = .ok (.ireturn, 1) := by decide +kernel
theorem dX4_isAsThen_0 : decode cX4_isAsThen 0 = .ok (.aload_n 0, 1) := by decide +kernel
theorem dX4_isAsThen_1 : decode cX4_isAsThen 1 = .ok (.getfield 16, 3) := by decide +kernel
theorem dX4_isAsThen_4 : decode cX4_isAsThen 4 = .ok (.iload_n 1, 1) := by decide +kernel
theorem dX4_isAsThen_5 : decode cX4_isAsThen 5 = .ok (.iaload, 1) := by decide +kernel
theorem dX4_isAsThen_6 : decode cX4_isAsThen 6 = .ok (.istore 4, 2) := by decide +kernel
theorem dX4_isAsThen_8 : decode cX4_isAsThen 8 = .ok (.aload_n 0, 1) := by decide +kernel
theorem dX4_isAsThen_9 : decode cX4_isAsThen 9 = .ok (.getfield 9, 3) := by decide +kernel
theorem dX4_isAsThen_12 : decode cX4_isAsThen 12 = .ok (.iload_n 1, 1) := by decide +kernel
theorem dX4_isAsThen_13 : decode cX4_isAsThen 13 = .ok (.iaload, 1) := by decide +kernel
theorem dX4_isAsThen_14 : decode cX4_isAsThen 14 = .ok (.iload_n 2, 1) := by decide +kernel
theorem dX4_isAsThen_15 : decode cX4_isAsThen 15 = .ok (.if_icmp .ne 22, 3) := by decide +kernel
theorem dX4_isAsThen_18 : decode cX4_isAsThen 18 = .ok (.iload 4, 2) := by decide +kernel
theorem dX4_isAsThen_20 : decode cX4_isAsThen 20 = .ok (.iconst (-1), 1) := by decide +kernel
theorem dX4_isAsThen_21 : decode cX4_isAsThen 21 = .ok (.if_icmp .eq 12, 3) := by decide +kernel
theorem dX4_isAsThen_24 : decode cX4_isAsThen 24 = .ok (.iload_n 3, 1) := by decide +kernel
theorem dX4_isAsThen_25 : decode cX4_isAsThen 25 = .ok (.iload 4, 2) := by decide +kernel
theorem dX4_isAsThen_27 : decode cX4_isAsThen 27 = .ok (.invokestatic 189, 3) := by decide +kernel
theorem dX4_isAsThen_30 : decode cX4_isAsThen 30 = .ok (.ifCond .eq 7, 3) := by decide +kernel
theorem dX4_isAsThen_33 : decode cX4_isAsThen 33 = .ok (.iconst 1, 1) := by decide +kernel
theorem dX4_isAsThen_34 : decode cX4_isAsThen 34 = .ok (.goto 4, 3) := by decide +kernel
theorem dX4_isAsThen_37 : decode cX4_isAsThen 37 = .ok (.iconst 0, 1) := by decide +kernel
theorem dX4_isAsThen_38 : decode cX4_isAsThen 38 = .ok (.ireturn, 1) := by decide +kernel
theorem dX4_execute_0 : decode cX4_execute 0 = .ok (.aload_n 2, 1) := by decide +kernel
theorem dX4_execute_1 : decode cX4_execute 1 = .ok (.aload_n 0, 1) := by decide +kernel
theorem dX4_execute_2 : decode cX4_execute 2 = .ok (.getfield 9, 3) := by decide +kernel
theorem dX4_execute_5 : decode cX4_execute 5 = .ok (.invokestatic 290, 3) := by decide +kernel
theorem dX4_execute_8 : decode cX4_execute 8 = .ok (.istore_n 3, 1) := by decide +kernel
theorem dX4_execute_9 : decode cX4_execute 9 = .ok (.iload_n 3, 1) := by decide +kernel
theorem dX4_execute_10 : decode cX4_execute 10 = .ok (.iconst (-1), 1) := by decide +kernel
theorem dX4_execute_11 : decode cX4_execute 11 = .ok (.if_icmp .eq 13, 3) := by decide +kernel
theorem dX4_execute_14 : decode cX4_execute 14 = .ok (.aload_n 0, 1) := by decide +kernel
theorem dX4_execute_15 : decode cX4_execute 15 = .ok (.iload_n 1, 1) := by decide +kernel
theorem dX4_execute_16 : decode cX4_execute 16 = .ok (.aload_n 2, 1) := by decide +kernel
theorem dX4_execute_17 : decode cX4_execute 17 = .ok (.iload_n 3, 1) := by decide +kernel
theorem dX4_execute_18 : decode cX4_execute 18 = .ok (.invokevirtual 294, 3) := by decide +kernel
theorem dX4_execute_21 : decode cX4_execute 21 = .ok (.bipush 109, 2) := by decide +kernel
theorem dX4_execute_23 : decode cX4_execute 23 = .ok (.ireturn, 1) := by decide +kernel
theorem dX4_execute_24 : decode cX4_execute 24 = .ok (.aload_n 0, 1) := by decide +kernel
theorem dX4_execute_25 : decode cX4_execute 25 = .ok (.getfield 9, 3) := by decide +kernel
theorem dX4_execute_28 : decode cX4_execute 28 = .ok (.aload_n 2, 1) := by decide +kernel
theorem dX4_execute_29 : decode cX4_execute 29 = .ok (.getfield 100, 3) := by decide +kernel
theorem dX4_execute_32 : decode cX4_execute 32 = .ok (.iaload, 1) := by decide +kernel
theorem dX4_execute_33 : decode cX4_execute 33 = .ok (.istore 4, 2) := by decide +kernel
theorem dX4_execute_35 : decode cX4_execute 35 = .ok (.aload_n 2, 1) := by decide +kernel
theorem dX4_execute_36 : decode cX4_execute 36 = .ok (.getfield 103, 3) := by decide +kernel
theorem dX4_execute_39 : decode cX4_execute 39 = .ok (.aload_n 0, 1) := by decide +kernel
theorem dX4_execute_40 : decode cX4_execute 40 = .ok (.getfield 9, 3) := by decide +kernel
theorem dX4_execute_43 : decode cX4_execute 43 = .ok (.invokestatic 298, 3) := by decide +kernel
theorem dX4_execute_46 : decode cX4_execute 46 = .ok (.istore 5, 2) := by decide +kernel
theorem dX4_execute_48 : decode cX4_execute 48 = .ok (.aload_n 2, 1) := by decide +kernel
theorem dX4_execute_49 : decode cX4_execute 49 = .ok (.iload 4, 2) := by decide +kernel
theorem dX4_execute_51 : decode cX4_execute 51 = .ok (.iload 5, 2) := by decide +kernel
theorem dX4_execute_53 : decode cX4_execute 53 = .ok (.invokestatic 302, 3) := by decide +kernel
theorem dX4_execute_56 : decode cX4_execute 56 = .ok (.istore 6, 2) := by decide +kernel
theorem dX4_execute_58 : decode cX4_execute 58 = .ok (.iload 6, 2) := by decide +kernel
theorem dX4_execute_60 : decode cX4_execute 60 = .ok (.iconst (-1), 1) := by decide +kernel
theorem dX4_execute_61 : decode cX4_execute 61 = .ok (.if_icmp .ne 23, 3) := by decide +kernel
theorem dX4_execute_64 : decode cX4_execute 64 = .ok (.aload_n 2, 1) := by decide +kernel
theorem dX4_execute_65 : decode cX4_execute 65 = .ok (.getfield 274, 3) := by decide +kernel
theorem dX4_execute_68 : decode cX4_execute 68 = .ok (.iload_n 1, 1) := by decide +kernel
theorem dX4_execute_69 : decode cX4_execute 69 = .ok (.bipush 122, 2) := by decide +kernel
theorem dX4_execute_71 : decode cX4_execute 71 = .ok (.invokevirtual 306, 3) := by decide +kernel
theorem dX4_execute_74 : decode cX4_execute 74 = .ok (.aload_n 0, 1) := by decide +kernel
theorem dX4_execute_75 : decode cX4_execute 75 = .ok (.aload_n 2, 1) := by decide +kernel
theorem dX4_execute_76 : decode cX4_execute 76 = .ok (.iconst 2, 1) := by decide +kernel
theorem dX4_execute_77 : decode cX4_execute 77 = .ok (.iconst (-1), 1) := by decide +kernel
theorem dX4_execute_78 : decode cX4_execute 78 = .ok (.invokevirtual 310, 3) := by decide +kernel
theorem dX4_execute_81 : decode cX4_execute 81 = .ok (.bipush 122, 2) := by decide +kernel
theorem dX4_execute_83 : decode cX4_execute 83 = .ok (.ireturn, 1) := by decide +kernel
theorem dX4_execute_84 : decode cX4_execute 84 = .ok (.aload_n 2, 1) := by decide +kernel
theorem dX4_execute_85 : decode cX4_execute 85 = .ok (.getfield 314, 3) := by decide +kernel
theorem dX4_execute_88 : decode cX4_execute 88 = .ok (.iload 4, 2) := by decide +kernel
theorem dX4_execute_90 : decode cX4_execute 90 = .ok (.iload 5, 2) := by decide +kernel
theorem dX4_execute_92 : decode cX4_execute 92 = .ok (.aload_n 2, 1) := by decide +kernel
theorem dX4_execute_93 : decode cX4_execute 93 = .ok (.getfield 106, 3) := by decide +kernel
theorem dX4_execute_96 : decode cX4_execute 96 = .ok (.invokevirtual 318, 3) := by decide +kernel
theorem dX4_execute_99 : decode cX4_execute 99 = .ok (.istore 7, 2) := by decide +kernel
theorem dX4_execute_101 : decode cX4_execute 101 = .ok (.iload 7, 2) := by decide +kernel
theorem dX4_execute_103 : decode cX4_execute 103 = .ok (.iconst (-1), 1) := by decide +kernel
theorem dX4_execute_104 : decode cX4_execute 104 = .ok (.if_icmp .eq 27, 3) := by decide +kernel
theorem dX4_execute_107 : decode cX4_execute 107 = .ok (.aload_n 2, 1) := by decide +kernel
theorem dX4_execute_108 : decode cX4_execute 108 = .ok (.dup, 1) := by decide +kernel
theorem dX4_execute_109 : decode cX4_execute 109 = .ok (.getfield 170, 3) := by decide +kernel
theorem dX4_execute_112 : decode cX4_execute 112 = .ok (.iconst 1, 1) := by decide +kernel
theorem dX4_execute_113 : decode cX4_execute 113 = .ok (.iadd, 1) := by decide +kernel
theorem dX4_execute_114 : decode cX4_execute 114 = .ok (.putfield 170, 3) := by decide +kernel
theorem dX4_execute_117 : decode cX4_execute 117 = .ok (.aload_n 0, 1) := by decide +kernel
theorem dX4_execute_118 : decode cX4_execute 118 = .ok (.aload_n 2, 1) := by decide +kernel
theorem dX4_execute_119 : decode cX4_execute 119 = .ok (.iload 4, 2) := by decide +kernel
theorem dX4_execute_121 : decode cX4_execute 121 = .ok (.iload 5, 2) := by decide +kernel
theorem dX4_execute_123 : decode cX4_execute 123 = .ok (.iload 7, 2) := by decide +kernel
theorem dX4_execute_125 : decode cX4_execute 125 = .ok (.invokevirtual 324, 3) := by decide +kernel
theorem dX4_execute_128 : decode cX4_execute 128 = .ok (.bipush 104, 2) := by decide +kernel
theorem dX4_execute_130 : decode cX4_execute 130 = .ok (.ireturn, 1) := by decide +kernel
theorem dX4_execute_131 : decode cX4_execute 131 = .ok (.aload_n 0, 1) := by decide +kernel
theorem dX4_execute_132 : decode cX4_execute 132 = .ok (.aload_n 2, 1) := by decide +kernel
theorem dX4_execute_133 : decode cX4_execute 133 = .ok (.getfield 112, 3) := by decide +kernel
theorem dX4_execute_136 : decode cX4_execute 136 = .ok (.invokevirtual 328, 3) := by decide +kernel
theorem dX4_execute_139 : decode cX4_execute 139 = .ok (.istore 8, 2) := by decide +kernel
theorem dX4_execute_141 : decode cX4_execute 141 = .ok (.iload 8, 2) := by decide +kernel
theorem dX4_execute_143 : decode cX4_execute 143 = .ok (.iconst (-1), 1) := by decide +kernel
theorem dX4_execute_144 : decode cX4_execute 144 = .ok (.if_icmp .ne 6, 3) := by decide +kernel
theorem dX4_execute_147 : decode cX4_execute 147 = .ok (.bipush 119, 2) := by decide +kernel
theorem dX4_execute_149 : decode cX4_execute 149 = .ok (.ireturn, 1) := by decide +kernel
theorem dX4_execute_150 : decode cX4_execute 150 = .ok (.aload_n 0, 1) := by decide +kernel
theorem dX4_execute_151 : decode cX4_execute 151 = .ok (.getfield 30, 3) := by decide +kernel
theorem dX4_execute_154 : decode cX4_execute 154 = .ok (.iload 8, 2) := by decide +kernel
theorem dX4_execute_156 : decode cX4_execute 156 = .ok (.aaload, 1) := by decide +kernel
theorem dX4_execute_157 : decode cX4_execute 157 = .ok (.aload_n 2, 1) := by decide +kernel
theorem dX4_execute_158 : decode cX4_execute 158 = .ok (.getfield 112, 3) := by decide +kernel
theorem dX4_execute_161 : decode cX4_execute 161 = .ok (.aload_n 0, 1) := by decide +kernel
theorem dX4_execute_162 : decode cX4_execute 162 = .ok (.getfield 221, 3) := by decide +kernel
theorem dX4_execute_165 : decode cX4_execute 165 = .ok (.aload_n 2, 1) := by decide +kernel
theorem dX4_execute_166 : decode cX4_execute 166 = .ok (.getfield 115, 3) := by decide +kernel
theorem dX4_execute_169 : decode cX4_execute 169 = .ok (.iadd, 1) := by decide +kernel
theorem dX4_execute_170 : decode cX4_execute 170 = .ok (.invokevirtual 331, 3) := by decide +kernel
theorem dX4_execute_173 : decode cX4_execute 173 = .ok (.aload_n 0, 1) := by decide +kernel
theorem dX4_execute_174 : decode cX4_execute 174 = .ok (.dup, 1) := by decide +kernel
theorem dX4_execute_175 : decode cX4_execute 175 = .ok (.getfield 232, 3) := by decide +kernel
theorem dX4_execute_178 : decode cX4_execute 178 = .ok (.aload_n 2, 1) := by decide +kernel
theorem dX4_execute_179 : decode cX4_execute 179 = .ok (.getfield 112, 3) := by decide +kernel
theorem dX4_execute_182 : decode cX4_execute 182 = .ok (.i2l, 1) := by decide +kernel
theorem dX4_execute_183 : decode cX4_execute 183 = .ok (.aload_n 2, 1) := by decide +kernel
theorem dX4_execute_184 : decode cX4_execute 184 = .ok (.getfield 115, 3) := by decide +kernel
theorem dX4_execute_187 : decode cX4_execute 187 = .ok (.i2l, 1) := by decide +kernel
theorem dX4_execute_188 : decode cX4_execute 188 = .ok (.lmul, 1) := by decide +kernel
theorem dX4_execute_189 : decode cX4_execute 189 = .ok (.ladd, 1) := by decide +kernel
theorem dX4_execute_190 : decode cX4_execute 190 = .ok (.putfield 232, 3) := by decide +kernel
theorem dX4_execute_193 : decode cX4_execute 193 = .ok (.aload_n 2, 1) := by decide +kernel
theorem dX4_execute_194 : decode cX4_execute 194 = .ok (.dup, 1) := by decide +kernel
theorem dX4_execute_195 : decode cX4_execute 195 = .ok (.getfield 167, 3) := by decide +kernel
theorem dX4_execute_198 : decode cX4_execute 198 = .ok (.iconst 1, 1) := by decide +kernel
theorem dX4_execute_199 : decode cX4_execute 199 = .ok (.iadd, 1) := by decide +kernel
theorem dX4_execute_200 : decode cX4_execute 200 = .ok (.putfield 167, 3) := by decide +kernel
theorem dX4_execute_203 : decode cX4_execute 203 = .ok (.aload_n 2, 1) := by decide +kernel
theorem dX4_execute_204 : decode cX4_execute 204 = .ok (.getfield 314, 3) := by decide +kernel
theorem dX4_execute_207 : decode cX4_execute 207 = .ok (.iload 4, 2) := by decide +kernel
theorem dX4_execute_209 : decode cX4_execute 209 = .ok (.iload 5, 2) := by decide +kernel
theorem dX4_execute_211 : decode cX4_execute 211 = .ok (.aload_n 2, 1) := by decide +kernel
theorem dX4_execute_212 : decode cX4_execute 212 = .ok (.getfield 106, 3) := by decide +kernel
theorem dX4_execute_215 : decode cX4_execute 215 = .ok (.iload 6, 2) := by decide +kernel
theorem dX4_execute_217 : decode cX4_execute 217 = .ok (.invokevirtual 335, 3) := by decide +kernel
theorem dX4_execute_220 : decode cX4_execute 220 = .ok (.aload_n 0, 1) := by decide +kernel
theorem dX4_execute_221 : decode cX4_execute 221 = .ok (.aload_n 2, 1) := by decide +kernel
theorem dX4_execute_222 : decode cX4_execute 222 = .ok (.iload 4, 2) := by decide +kernel
theorem dX4_execute_224 : decode cX4_execute 224 = .ok (.iload 5, 2) := by decide +kernel
theorem dX4_execute_226 : decode cX4_execute 226 = .ok (.iload 6, 2) := by decide +kernel
theorem dX4_execute_228 : decode cX4_execute 228 = .ok (.invokevirtual 324, 3) := by decide +kernel
theorem dX4_execute_231 : decode cX4_execute 231 = .ok (.bipush 114, 2) := by decide +kernel
theorem dX4_execute_233 : decode cX4_execute 233 = .ok (.ireturn, 1) := by decide +kernel
theorem dX4_succeedWith_0 : decode cX4_succeedWith 0 = .ok (.aload_n 1, 1) := by decide +kernel
theorem dX4_succeedWith_1 : decode cX4_succeedWith 1 = .ok (.iload_n 2, 1) := by decide +kernel
theorem dX4_succeedWith_2 : decode cX4_succeedWith 2 = .ok (.putfield 281, 3) := by decide +kernel
theorem dX4_succeedWith_5 : decode cX4_succeedWith 5 = .ok (.aload_n 1, 1) := by decide +kernel
theorem dX4_succeedWith_6 : decode cX4_succeedWith 6 = .ok (.iload_n 3, 1) := by decide +kernel
theorem dX4_succeedWith_7 : decode cX4_succeedWith 7 = .ok (.putfield 287, 3) := by decide +kernel
theorem dX4_succeedWith_10 : decode cX4_succeedWith 10 = .ok (.aload_n 1, 1) := by decide +kernel
theorem dX4_succeedWith_11 : decode cX4_succeedWith 11 = .ok (.aload_n 1, 1) := by decide +kernel
theorem dX4_succeedWith_12 : decode cX4_succeedWith 12 = .ok (.getfield 106, 3) := by decide +kernel
theorem dX4_succeedWith_15 : decode cX4_succeedWith 15 = .ok (.putfield 278, 3) := by decide +kernel
theorem dX4_succeedWith_18 : decode cX4_succeedWith 18 = .ok (.aload_n 0, 1) := by decide +kernel
theorem dX4_succeedWith_19 : decode cX4_succeedWith 19 = .ok (.aload_n 1, 1) := by decide +kernel
theorem dX4_succeedWith_20 : decode cX4_succeedWith 20 = .ok (.iconst 1, 1) := by decide +kernel
theorem dX4_succeedWith_21 : decode cX4_succeedWith 21 = .ok (.iload 4, 2) := by decide +kernel
theorem dX4_succeedWith_23 : decode cX4_succeedWith 23 = .ok (.invokevirtual 310, 3) := by decide +kernel
theorem dX4_succeedWith_26 : decode cX4_succeedWith 26 = .ok (.return_, 1) := by decide +kernel
theorem dX4_endWith_0 : decode cX4_endWith 0 = .ok (.aload_n 1, 1) := by decide +kernel
theorem dX4_endWith_1 : decode cX4_endWith 1 = .ok (.iload_n 2, 1) := by decide +kernel
theorem dX4_endWith_2 : decode cX4_endWith 2 = .ok (.putfield 152, 3) := by decide +kernel
theorem dX4_endWith_5 : decode cX4_endWith 5 = .ok (.aload_n 0, 1) := by decide +kernel
theorem dX4_endWith_6 : decode cX4_endWith 6 = .ok (.getfield 9, 3) := by decide +kernel
theorem dX4_endWith_9 : decode cX4_endWith 9 = .ok (.aload_n 1, 1) := by decide +kernel
theorem dX4_endWith_10 : decode cX4_endWith 10 = .ok (.getfield 109, 3) := by decide +kernel
theorem dX4_endWith_13 : decode cX4_endWith 13 = .ok (.iload_n 3, 1) := by decide +kernel
theorem dX4_endWith_14 : decode cX4_endWith 14 = .ok (.iastore, 1) := by decide +kernel
theorem dX4_endWith_15 : decode cX4_endWith 15 = .ok (.return_, 1) := by decide +kernel
theorem dX4_failForMissing_0 : decode cX4_failForMissing 0 = .ok (.aload_n 0, 1) := by decide +kernel
theorem dX4_failForMissing_1 : decode cX4_failForMissing 1 = .ok (.getfield 16, 3) := by decide +kernel
theorem dX4_failForMissing_4 : decode cX4_failForMissing 4 = .ok (.iload_n 3, 1) := by decide +kernel
theorem dX4_failForMissing_5 : decode cX4_failForMissing 5 = .ok (.iaload, 1) := by decide +kernel
theorem dX4_failForMissing_6 : decode cX4_failForMissing 6 = .ok (.istore 4, 2) := by decide +kernel
theorem dX4_failForMissing_8 : decode cX4_failForMissing 8 = .ok (.iload 4, 2) := by decide +kernel
theorem dX4_failForMissing_10 : decode cX4_failForMissing 10 = .ok (.iconst (-1), 1) := by decide +kernel
theorem dX4_failForMissing_11 : decode cX4_failForMissing 11 = .ok (.if_icmp .eq 39, 3) := by decide +kernel
theorem dX4_failForMissing_14 : decode cX4_failForMissing 14 = .ok (.aload_n 0, 1) := by decide +kernel
theorem dX4_failForMissing_15 : decode cX4_failForMissing 15 = .ok (.getfield 24, 3) := by decide +kernel
theorem dX4_failForMissing_18 : decode cX4_failForMissing 18 = .ok (.iload 4, 2) := by decide +kernel
theorem dX4_failForMissing_20 : decode cX4_failForMissing 20 = .ok (.aaload, 1) := by decide +kernel
theorem dX4_failForMissing_21 : decode cX4_failForMissing 21 = .ok (.getfield 152, 3) := by decide +kernel
theorem dX4_failForMissing_24 : decode cX4_failForMissing 24 = .ok (.iconst 2, 1) := by decide +kernel
theorem dX4_failForMissing_25 : decode cX4_failForMissing 25 = .ok (.if_icmp .ne 25, 3) := by decide +kernel
theorem dX4_failForMissing_28 : decode cX4_failForMissing 28 = .ok (.aload_n 2, 1) := by decide +kernel
theorem dX4_failForMissing_29 : decode cX4_failForMissing 29 = .ok (.getfield 274, 3) := by decide +kernel
theorem dX4_failForMissing_32 : decode cX4_failForMissing 32 = .ok (.aload_n 0, 1) := by decide +kernel
theorem dX4_failForMissing_33 : decode cX4_failForMissing 33 = .ok (.getfield 24, 3) := by decide +kernel
theorem dX4_failForMissing_36 : decode cX4_failForMissing 36 = .ok (.iload 4, 2) := by decide +kernel
theorem dX4_failForMissing_38 : decode cX4_failForMissing 38 = .ok (.aaload, 1) := by decide +kernel
theorem dX4_failForMissing_39 : decode cX4_failForMissing 39 = .ok (.getfield 274, 3) := by decide +kernel
theorem dX4_failForMissing_42 : decode cX4_failForMissing 42 = .ok (.bipush 109, 2) := by decide +kernel
theorem dX4_failForMissing_44 : decode cX4_failForMissing 44 = .ok (.invokevirtual 339, 3) := by decide +kernel
theorem dX4_failForMissing_47 : decode cX4_failForMissing 47 = .ok (.goto 13, 3) := by decide +kernel
theorem dX4_failForMissing_50 : decode cX4_failForMissing 50 = .ok (.aload_n 2, 1) := by decide +kernel
theorem dX4_failForMissing_51 : decode cX4_failForMissing 51 = .ok (.getfield 274, 3) := by decide +kernel
theorem dX4_failForMissing_54 : decode cX4_failForMissing 54 = .ok (.iload_n 1, 1) := by decide +kernel
theorem dX4_failForMissing_55 : decode cX4_failForMissing 55 = .ok (.bipush 109, 2) := by decide +kernel
theorem dX4_failForMissing_57 : decode cX4_failForMissing 57 = .ok (.invokevirtual 306, 3) := by decide +kernel
theorem dX4_failForMissing_60 : decode cX4_failForMissing 60 = .ok (.aload_n 0, 1) := by decide +kernel
theorem dX4_failForMissing_61 : decode cX4_failForMissing 61 = .ok (.aload_n 2, 1) := by decide +kernel
theorem dX4_failForMissing_62 : decode cX4_failForMissing 62 = .ok (.iconst 2, 1) := by decide +kernel
theorem dX4_failForMissing_63 : decode cX4_failForMissing 63 = .ok (.iconst (-1), 1) := by decide +kernel
theorem dX4_failForMissing_64 : decode cX4_failForMissing 64 = .ok (.invokevirtual 310, 3) := by decide +kernel
theorem dX4_failForMissing_67 : decode cX4_failForMissing 67 = .ok (.return_, 1) := by decide +kernel
theorem dX4_firstMissing_0 : decode cX4_firstMissing 0 = .ok (.aload_n 1, 1) := by decide +kernel
theorem dX4_firstMissing_1 : decode cX4_firstMissing 1 = .ok (.aload_n 0, 1) := by decide +kernel
theorem dX4_firstMissing_2 : decode cX4_firstMissing 2 = .ok (.getfield 100, 3) := by decide +kernel
theorem dX4_firstMissing_5 : decode cX4_firstMissing 5 = .ok (.iaload, 1) := by decide +kernel
theorem dX4_firstMissing_6 : decode cX4_firstMissing 6 = .ok (.iconst (-1), 1) := by decide +kernel
theorem dX4_firstMissing_7 : decode cX4_firstMissing 7 = .ok (.if_icmp .ne 8, 3) := by decide +kernel
theorem dX4_firstMissing_10 : decode cX4_firstMissing 10 = .ok (.aload_n 0, 1) := by decide +kernel
theorem dX4_firstMissing_11 : decode cX4_firstMissing 11 = .ok (.getfield 100, 3) := by decide +kernel
theorem dX4_firstMissing_14 : decode cX4_firstMissing 14 = .ok (.ireturn, 1) := by decide +kernel
theorem dX4_firstMissing_15 : decode cX4_firstMissing 15 = .ok (.aload_n 0, 1) := by decide +kernel
theorem dX4_firstMissing_16 : decode cX4_firstMissing 16 = .ok (.getfield 103, 3) := by decide +kernel
theorem dX4_firstMissing_19 : decode cX4_firstMissing 19 = .ok (.iconst (-1), 1) := by decide +kernel
theorem dX4_firstMissing_20 : decode cX4_firstMissing 20 = .ok (.if_icmp .eq 18, 3) := by decide +kernel
theorem dX4_firstMissing_23 : decode cX4_firstMissing 23 = .ok (.aload_n 1, 1) := by decide +kernel
theorem dX4_firstMissing_24 : decode cX4_firstMissing 24 = .ok (.aload_n 0, 1) := by decide +kernel
theorem dX4_firstMissing_25 : decode cX4_firstMissing 25 = .ok (.getfield 103, 3) := by decide +kernel
theorem dX4_firstMissing_28 : decode cX4_firstMissing 28 = .ok (.iaload, 1) := by decide +kernel
theorem dX4_firstMissing_29 : decode cX4_firstMissing 29 = .ok (.iconst (-1), 1) := by decide +kernel
theorem dX4_firstMissing_30 : decode cX4_firstMissing 30 = .ok (.if_icmp .ne 8, 3) := by decide +kernel
theorem dX4_firstMissing_33 : decode cX4_firstMissing 33 = .ok (.aload_n 0, 1) := by decide +kernel
theorem dX4_firstMissing_34 : decode cX4_firstMissing 34 = .ok (.getfield 103, 3) := by decide +kernel
theorem dX4_firstMissing_37 : decode cX4_firstMissing 37 = .ok (.ireturn, 1) := by decide +kernel
theorem dX4_firstMissing_38 : decode cX4_firstMissing 38 = .ok (.iconst (-1), 1) := by decide +kernel
theorem dX4_firstMissing_39 : decode cX4_firstMissing 39 = .ok (.ireturn, 1) := by decide +kernel
theorem dX4_valueIfAny_0 : decode cX4_valueIfAny 0 = .ok (.iload_n 0, 1) := by decide +kernel
theorem dX4_valueIfAny_1 : decode cX4_valueIfAny 1 = .ok (.iconst (-1), 1) := by decide +kernel
theorem dX4_valueIfAny_2 : decode cX4_valueIfAny 2 = .ok (.if_icmp .ne 7, 3) := by decide +kernel
theorem dX4_valueIfAny_5 : decode cX4_valueIfAny 5 = .ok (.iconst (-1), 1) := by decide +kernel
theorem dX4_valueIfAny_6 : decode cX4_valueIfAny 6 = .ok (.goto 6, 3) := by decide +kernel
theorem dX4_valueIfAny_9 : decode cX4_valueIfAny 9 = .ok (.aload_n 1, 1) := by decide +kernel
theorem dX4_valueIfAny_10 : decode cX4_valueIfAny 10 = .ok (.iload_n 0, 1) := by decide +kernel
theorem dX4_valueIfAny_11 : decode cX4_valueIfAny 11 = .ok (.iaload, 1) := by decide +kernel
theorem dX4_valueIfAny_12 : decode cX4_valueIfAny 12 = .ok (.ireturn, 1) := by decide +kernel
theorem dX4_resultOf_0 : decode cX4_resultOf 0 = .ok (.aload_n 0, 1) := by decide +kernel
theorem dX4_resultOf_1 : decode cX4_resultOf 1 = .ok (.getfield 103, 3) := by decide +kernel
theorem dX4_resultOf_4 : decode cX4_resultOf 4 = .ok (.iconst (-1), 1) := by decide +kernel
theorem dX4_resultOf_5 : decode cX4_resultOf 5 = .ok (.if_icmp .eq 7, 3) := by decide +kernel
theorem dX4_resultOf_8 : decode cX4_resultOf 8 = .ok (.iconst 1, 1) := by decide +kernel
theorem dX4_resultOf_9 : decode cX4_resultOf 9 = .ok (.goto 4, 3) := by decide +kernel
theorem dX4_resultOf_12 : decode cX4_resultOf 12 = .ok (.iconst 0, 1) := by decide +kernel
theorem dX4_resultOf_13 : decode cX4_resultOf 13 = .ok (.istore_n 3, 1) := by decide +kernel
theorem dX4_resultOf_14 : decode cX4_resultOf 14 = .ok (.iload_n 3, 1) := by decide +kernel
theorem dX4_resultOf_15 : decode cX4_resultOf 15 = .ok (.ifCond .eq 7, 3) := by decide +kernel
theorem dX4_resultOf_18 : decode cX4_resultOf 18 = .ok (.iload_n 2, 1) := by decide +kernel
theorem dX4_resultOf_19 : decode cX4_resultOf 19 = .ok (.goto 7, 3) := by decide +kernel
theorem dX4_resultOf_22 : decode cX4_resultOf 22 = .ok (.aload_n 0, 1) := by decide +kernel
theorem dX4_resultOf_23 : decode cX4_resultOf 23 = .ok (.getfield 106, 3) := by decide +kernel
theorem dX4_resultOf_26 : decode cX4_resultOf 26 = .ok (.istore 4, 2) := by decide +kernel
theorem dX4_resultOf_28 : decode cX4_resultOf 28 = .ok (.aload_n 0, 1) := by decide +kernel
theorem dX4_resultOf_29 : decode cX4_resultOf 29 = .ok (.getfield 96, 3) := by decide +kernel
theorem dX4_resultOf_32 : decode cX4_resultOf 32 = .ok (.bipush 43, 2) := by decide +kernel
theorem dX4_resultOf_34 : decode cX4_resultOf 34 = .ok (.if_icmp .ne 24, 3) := by decide +kernel
theorem dX4_resultOf_37 : decode cX4_resultOf 37 = .ok (.iload_n 1, 1) := by decide +kernel
theorem dX4_resultOf_38 : decode cX4_resultOf 38 = .ok (.aload_n 0, 1) := by decide +kernel
theorem dX4_resultOf_39 : decode cX4_resultOf 39 = .ok (.getfield 106, 3) := by decide +kernel
theorem dX4_resultOf_42 : decode cX4_resultOf 42 = .ok (.iadd, 1) := by decide +kernel
theorem dX4_resultOf_43 : decode cX4_resultOf 43 = .ok (.iload_n 3, 1) := by decide +kernel
theorem dX4_resultOf_44 : decode cX4_resultOf 44 = .ok (.ifCond .eq 7, 3) := by decide +kernel
theorem dX4_resultOf_47 : decode cX4_resultOf 47 = .ok (.iload_n 2, 1) := by decide +kernel
theorem dX4_resultOf_48 : decode cX4_resultOf 48 = .ok (.goto 4, 3) := by decide +kernel
theorem dX4_resultOf_51 : decode cX4_resultOf 51 = .ok (.iconst 0, 1) := by decide +kernel
theorem dX4_resultOf_52 : decode cX4_resultOf 52 = .ok (.iadd, 1) := by decide +kernel
theorem dX4_resultOf_53 : decode cX4_resultOf 53 = .ok (.sipush 1000, 3) := by decide +kernel
theorem dX4_resultOf_56 : decode cX4_resultOf 56 = .ok (.irem, 1) := by decide +kernel
theorem dX4_resultOf_57 : decode cX4_resultOf 57 = .ok (.ireturn, 1) := by decide +kernel
theorem dX4_resultOf_58 : decode cX4_resultOf 58 = .ok (.aload_n 0, 1) := by decide +kernel
theorem dX4_resultOf_59 : decode cX4_resultOf 59 = .ok (.getfield 96, 3) := by decide +kernel
theorem dX4_resultOf_62 : decode cX4_resultOf 62 = .ok (.bipush 42, 2) := by decide +kernel
theorem dX4_resultOf_64 : decode cX4_resultOf 64 = .ok (.if_icmp .ne 24, 3) := by decide +kernel
theorem dX4_resultOf_67 : decode cX4_resultOf 67 = .ok (.iload_n 1, 1) := by decide +kernel
theorem dX4_resultOf_68 : decode cX4_resultOf 68 = .ok (.aload_n 0, 1) := by decide +kernel
theorem dX4_resultOf_69 : decode cX4_resultOf 69 = .ok (.getfield 106, 3) := by decide +kernel
theorem dX4_resultOf_72 : decode cX4_resultOf 72 = .ok (.imul, 1) := by decide +kernel
theorem dX4_resultOf_73 : decode cX4_resultOf 73 = .ok (.iload_n 3, 1) := by decide +kernel
theorem dX4_resultOf_74 : decode cX4_resultOf 74 = .ok (.ifCond .eq 7, 3) := by decide +kernel
theorem dX4_resultOf_77 : decode cX4_resultOf 77 = .ok (.iload_n 2, 1) := by decide +kernel
theorem dX4_resultOf_78 : decode cX4_resultOf 78 = .ok (.goto 4, 3) := by decide +kernel
theorem dX4_resultOf_81 : decode cX4_resultOf 81 = .ok (.iconst 1, 1) := by decide +kernel
theorem dX4_resultOf_82 : decode cX4_resultOf 82 = .ok (.imul, 1) := by decide +kernel
theorem dX4_resultOf_83 : decode cX4_resultOf 83 = .ok (.sipush 1000, 3) := by decide +kernel
theorem dX4_resultOf_86 : decode cX4_resultOf 86 = .ok (.irem, 1) := by decide +kernel
theorem dX4_resultOf_87 : decode cX4_resultOf 87 = .ok (.ireturn, 1) := by decide +kernel
theorem dX4_resultOf_88 : decode cX4_resultOf 88 = .ok (.aload_n 0, 1) := by decide +kernel
theorem dX4_resultOf_89 : decode cX4_resultOf 89 = .ok (.getfield 96, 3) := by decide +kernel
theorem dX4_resultOf_92 : decode cX4_resultOf 92 = .ok (.bipush 45, 2) := by decide +kernel
theorem dX4_resultOf_94 : decode cX4_resultOf 94 = .ok (.if_icmp .ne 15, 3) := by decide +kernel
theorem dX4_resultOf_97 : decode cX4_resultOf 97 = .ok (.iload_n 1, 1) := by decide +kernel
theorem dX4_resultOf_98 : decode cX4_resultOf 98 = .ok (.iload 4, 2) := by decide +kernel
theorem dX4_resultOf_100 : decode cX4_resultOf 100 = .ok (.isub, 1) := by decide +kernel
theorem dX4_resultOf_101 : decode cX4_resultOf 101 = .ok (.invokestatic 343, 3) := by decide +kernel
theorem dX4_resultOf_104 : decode cX4_resultOf 104 = .ok (.sipush 1000, 3) := by decide +kernel
theorem dX4_resultOf_107 : decode cX4_resultOf 107 = .ok (.irem, 1) := by decide +kernel
theorem dX4_resultOf_108 : decode cX4_resultOf 108 = .ok (.ireturn, 1) := by decide +kernel
theorem dX4_resultOf_109 : decode cX4_resultOf 109 = .ok (.iload 4, 2) := by decide +kernel
theorem dX4_resultOf_111 : decode cX4_resultOf 111 = .ok (.ifCond .ne 7, 3) := by decide +kernel
theorem dX4_resultOf_114 : decode cX4_resultOf 114 = .ok (.iconst (-1), 1) := by decide +kernel
theorem dX4_resultOf_115 : decode cX4_resultOf 115 = .ok (.goto 11, 3) := by decide +kernel
theorem dX4_resultOf_118 : decode cX4_resultOf 118 = .ok (.iload_n 1, 1) := by decide +kernel
theorem dX4_resultOf_119 : decode cX4_resultOf 119 = .ok (.iload 4, 2) := by decide +kernel
theorem dX4_resultOf_121 : decode cX4_resultOf 121 = .ok (.idiv, 1) := by decide +kernel
theorem dX4_resultOf_122 : decode cX4_resultOf 122 = .ok (.sipush 1000, 3) := by decide +kernel
theorem dX4_resultOf_125 : decode cX4_resultOf 125 = .ok (.irem, 1) := by decide +kernel
theorem dX4_resultOf_126 : decode cX4_resultOf 126 = .ok (.ireturn, 1) := by decide +kernel
theorem dX4_kernelFor_0 : decode cX4_kernelFor 0 = .ok (.iconst (-1), 1) := by decide +kernel
theorem dX4_kernelFor_1 : decode cX4_kernelFor 1 = .ok (.istore_n 2, 1) := by decide +kernel
theorem dX4_kernelFor_2 : decode cX4_kernelFor 2 = .ok (.iconst 0, 1) := by decide +kernel
theorem dX4_kernelFor_3 : decode cX4_kernelFor 3 = .ok (.istore_n 3, 1) := by decide +kernel
theorem dX4_kernelFor_4 : decode cX4_kernelFor 4 = .ok (.iload_n 3, 1) := by decide +kernel
theorem dX4_kernelFor_5 : decode cX4_kernelFor 5 = .ok (.aload_n 0, 1) := by decide +kernel
theorem dX4_kernelFor_6 : decode cX4_kernelFor 6 = .ok (.getfield 198, 3) := by decide +kernel
theorem dX4_kernelFor_9 : decode cX4_kernelFor 9 = .ok (.if_icmp .ge 47, 3) := by decide +kernel
theorem dX4_kernelFor_12 : decode cX4_kernelFor 12 = .ok (.aload_n 0, 1) := by decide +kernel
theorem dX4_kernelFor_13 : decode cX4_kernelFor 13 = .ok (.getfield 30, 3) := by decide +kernel
theorem dX4_kernelFor_16 : decode cX4_kernelFor 16 = .ok (.iload_n 3, 1) := by decide +kernel
theorem dX4_kernelFor_17 : decode cX4_kernelFor 17 = .ok (.aaload, 1) := by decide +kernel
theorem dX4_kernelFor_18 : decode cX4_kernelFor 18 = .ok (.invokevirtual 211, 3) := by decide +kernel
theorem dX4_kernelFor_21 : decode cX4_kernelFor 21 = .ok (.istore 4, 2) := by decide +kernel
theorem dX4_kernelFor_23 : decode cX4_kernelFor 23 = .ok (.iload 4, 2) := by decide +kernel
theorem dX4_kernelFor_25 : decode cX4_kernelFor 25 = .ok (.iload_n 1, 1) := by decide +kernel
theorem dX4_kernelFor_26 : decode cX4_kernelFor 26 = .ok (.if_icmp .lt 24, 3) := by decide +kernel
theorem dX4_kernelFor_29 : decode cX4_kernelFor 29 = .ok (.iload_n 2, 1) := by decide +kernel
theorem dX4_kernelFor_30 : decode cX4_kernelFor 30 = .ok (.iconst (-1), 1) := by decide +kernel
theorem dX4_kernelFor_31 : decode cX4_kernelFor 31 = .ok (.if_icmp .eq 17, 3) := by decide +kernel
theorem dX4_kernelFor_34 : decode cX4_kernelFor 34 = .ok (.iload 4, 2) := by decide +kernel
theorem dX4_kernelFor_36 : decode cX4_kernelFor 36 = .ok (.aload_n 0, 1) := by decide +kernel
theorem dX4_kernelFor_37 : decode cX4_kernelFor 37 = .ok (.getfield 30, 3) := by decide +kernel
theorem dX4_kernelFor_40 : decode cX4_kernelFor 40 = .ok (.iload_n 2, 1) := by decide +kernel
theorem dX4_kernelFor_41 : decode cX4_kernelFor 41 = .ok (.aaload, 1) := by decide +kernel
theorem dX4_kernelFor_42 : decode cX4_kernelFor 42 = .ok (.invokevirtual 211, 3) := by decide +kernel
theorem dX4_kernelFor_45 : decode cX4_kernelFor 45 = .ok (.if_icmp .ge 5, 3) := by decide +kernel
theorem dX4_kernelFor_48 : decode cX4_kernelFor 48 = .ok (.iload_n 3, 1) := by decide +kernel
theorem dX4_kernelFor_49 : decode cX4_kernelFor 49 = .ok (.istore_n 2, 1) := by decide +kernel
theorem dX4_kernelFor_50 : decode cX4_kernelFor 50 = .ok (.iinc 3 1, 3) := by decide +kernel
theorem dX4_kernelFor_53 : decode cX4_kernelFor 53 = .ok (.goto (-49), 3) := by decide +kernel
theorem dX4_kernelFor_56 : decode cX4_kernelFor 56 = .ok (.iload_n 2, 1) := by decide +kernel
theorem dX4_kernelFor_57 : decode cX4_kernelFor 57 = .ok (.ireturn, 1) := by decide +kernel
theorem dX4_runWhatIsDue_0 : decode cX4_runWhatIsDue 0 = .ok (.iconst 0, 1) := by decide +kernel
theorem dX4_runWhatIsDue_1 : decode cX4_runWhatIsDue 1 = .ok (.istore_n 1, 1) := by decide +kernel
theorem dX4_runWhatIsDue_2 : decode cX4_runWhatIsDue 2 = .ok (.iconst 0, 1) := by decide +kernel
theorem dX4_runWhatIsDue_3 : decode cX4_runWhatIsDue 3 = .ok (.istore_n 2, 1) := by decide +kernel
theorem dX4_runWhatIsDue_4 : decode cX4_runWhatIsDue 4 = .ok (.iconst 0, 1) := by decide +kernel
theorem dX4_runWhatIsDue_5 : decode cX4_runWhatIsDue 5 = .ok (.istore_n 3, 1) := by decide +kernel
theorem dX4_runWhatIsDue_6 : decode cX4_runWhatIsDue 6 = .ok (.iload_n 3, 1) := by decide +kernel
theorem dX4_runWhatIsDue_7 : decode cX4_runWhatIsDue 7 = .ok (.aload_n 0, 1) := by decide +kernel
theorem dX4_runWhatIsDue_8 : decode cX4_runWhatIsDue 8 = .ok (.getfield 91, 3) := by decide +kernel
theorem dX4_runWhatIsDue_11 : decode cX4_runWhatIsDue 11 = .ok (.if_icmp .ge 79, 3) := by decide +kernel
theorem dX4_runWhatIsDue_14 : decode cX4_runWhatIsDue 14 = .ok (.aload_n 0, 1) := by decide +kernel
theorem dX4_runWhatIsDue_15 : decode cX4_runWhatIsDue 15 = .ok (.getfield 24, 3) := by decide +kernel
theorem dX4_runWhatIsDue_18 : decode cX4_runWhatIsDue 18 = .ok (.iload_n 3, 1) := by decide +kernel
theorem dX4_runWhatIsDue_19 : decode cX4_runWhatIsDue 19 = .ok (.aaload, 1) := by decide +kernel
theorem dX4_runWhatIsDue_20 : decode cX4_runWhatIsDue 20 = .ok (.astore 4, 2) := by decide +kernel
theorem dX4_runWhatIsDue_22 : decode cX4_runWhatIsDue 22 = .ok (.aload_n 0, 1) := by decide +kernel
theorem dX4_runWhatIsDue_23 : decode cX4_runWhatIsDue 23 = .ok (.aload 4, 2) := by decide +kernel
theorem dX4_runWhatIsDue_25 : decode cX4_runWhatIsDue 25 = .ok (.invokevirtual 348, 3) := by decide +kernel
theorem dX4_runWhatIsDue_28 : decode cX4_runWhatIsDue 28 = .ok (.ifCond .eq 39, 3) := by decide +kernel
theorem dX4_runWhatIsDue_31 : decode cX4_runWhatIsDue 31 = .ok (.aload_n 0, 1) := by decide +kernel
theorem dX4_runWhatIsDue_32 : decode cX4_runWhatIsDue 32 = .ok (.aload 4, 2) := by decide +kernel
theorem dX4_runWhatIsDue_34 : decode cX4_runWhatIsDue 34 = .ok (.iload_n 2, 1) := by decide +kernel
theorem dX4_runWhatIsDue_35 : decode cX4_runWhatIsDue 35 = .ok (.invokevirtual 140, 3) := by decide +kernel
theorem dX4_runWhatIsDue_38 : decode cX4_runWhatIsDue 38 = .ok (.ifCond .ne 29, 3) := by decide +kernel
theorem dX4_runWhatIsDue_41 : decode cX4_runWhatIsDue 41 = .ok (.aload_n 0, 1) := by decide +kernel
theorem dX4_runWhatIsDue_42 : decode cX4_runWhatIsDue 42 = .ok (.iload_n 3, 1) := by decide +kernel
theorem dX4_runWhatIsDue_43 : decode cX4_runWhatIsDue 43 = .ok (.aload 4, 2) := by decide +kernel
theorem dX4_runWhatIsDue_45 : decode cX4_runWhatIsDue 45 = .ok (.invokevirtual 136, 3) := by decide +kernel
theorem dX4_runWhatIsDue_48 : decode cX4_runWhatIsDue 48 = .ok (.istore 5, 2) := by decide +kernel
theorem dX4_runWhatIsDue_50 : decode cX4_runWhatIsDue 50 = .ok (.iload 5, 2) := by decide +kernel
theorem dX4_runWhatIsDue_52 : decode cX4_runWhatIsDue 52 = .ok (.bipush 114, 2) := by decide +kernel
theorem dX4_runWhatIsDue_54 : decode cX4_runWhatIsDue 54 = .ok (.if_icmp .eq 10, 3) := by decide +kernel
theorem dX4_runWhatIsDue_57 : decode cX4_runWhatIsDue 57 = .ok (.iload 5, 2) := by decide +kernel
theorem dX4_runWhatIsDue_59 : decode cX4_runWhatIsDue 59 = .ok (.bipush 104, 2) := by decide +kernel
theorem dX4_runWhatIsDue_61 : decode cX4_runWhatIsDue 61 = .ok (.if_icmp .ne 6, 3) := by decide +kernel
theorem dX4_runWhatIsDue_64 : decode cX4_runWhatIsDue 64 = .ok (.iinc 1 1, 3) := by decide +kernel
theorem dX4_runWhatIsDue_67 : decode cX4_runWhatIsDue 67 = .ok (.aload_n 0, 1) := by decide +kernel
theorem dX4_runWhatIsDue_68 : decode cX4_runWhatIsDue 68 = .ok (.aload 4, 2) := by decide +kernel
theorem dX4_runWhatIsDue_70 : decode cX4_runWhatIsDue 70 = .ok (.iload_n 2, 1) := by decide +kernel
theorem dX4_runWhatIsDue_71 : decode cX4_runWhatIsDue 71 = .ok (.invokevirtual 140, 3) := by decide +kernel
theorem dX4_runWhatIsDue_74 : decode cX4_runWhatIsDue 74 = .ok (.ifCond .eq 10, 3) := by decide +kernel
theorem dX4_runWhatIsDue_77 : decode cX4_runWhatIsDue 77 = .ok (.iload_n 2, 1) := by decide +kernel
theorem dX4_runWhatIsDue_78 : decode cX4_runWhatIsDue 78 = .ok (.iload_n 3, 1) := by decide +kernel
theorem dX4_runWhatIsDue_79 : decode cX4_runWhatIsDue 79 = .ok (.invokestatic 144, 3) := by decide +kernel
theorem dX4_runWhatIsDue_82 : decode cX4_runWhatIsDue 82 = .ok (.ior, 1) := by decide +kernel
theorem dX4_runWhatIsDue_83 : decode cX4_runWhatIsDue 83 = .ok (.istore_n 2, 1) := by decide +kernel
theorem dX4_runWhatIsDue_84 : decode cX4_runWhatIsDue 84 = .ok (.iinc 3 1, 3) := by decide +kernel
theorem dX4_runWhatIsDue_87 : decode cX4_runWhatIsDue 87 = .ok (.goto (-81), 3) := by decide +kernel
theorem dX4_runWhatIsDue_90 : decode cX4_runWhatIsDue 90 = .ok (.iload_n 1, 1) := by decide +kernel
theorem dX4_runWhatIsDue_91 : decode cX4_runWhatIsDue 91 = .ok (.ireturn, 1) := by decide +kernel
theorem dX4_isDue_0 : decode cX4_isDue 0 = .ok (.aload_n 1, 1) := by decide +kernel
theorem dX4_isDue_1 : decode cX4_isDue 1 = .ok (.getfield 216, 3) := by decide +kernel
theorem dX4_isDue_4 : decode cX4_isDue 4 = .ok (.ifCond .eq 19, 3) := by decide +kernel
theorem dX4_isDue_7 : decode cX4_isDue 7 = .ok (.aload_n 0, 1) := by decide +kernel
theorem dX4_isDue_8 : decode cX4_isDue 8 = .ok (.getfield 221, 3) := by decide +kernel
theorem dX4_isDue_11 : decode cX4_isDue 11 = .ok (.aload_n 1, 1) := by decide +kernel
theorem dX4_isDue_12 : decode cX4_isDue 12 = .ok (.getfield 216, 3) := by decide +kernel
theorem dX4_isDue_15 : decode cX4_isDue 15 = .ok (.irem, 1) := by decide +kernel
theorem dX4_isDue_16 : decode cX4_isDue 16 = .ok (.ifCond .ne 7, 3) := by decide +kernel
theorem dX4_isDue_19 : decode cX4_isDue 19 = .ok (.iconst 1, 1) := by decide +kernel
theorem dX4_isDue_20 : decode cX4_isDue 20 = .ok (.goto 4, 3) := by decide +kernel
theorem dX4_isDue_23 : decode cX4_isDue 23 = .ok (.iconst 0, 1) := by decide +kernel
theorem dX4_isDue_24 : decode cX4_isDue 24 = .ok (.ireturn, 1) := by decide +kernel
theorem dX4_computeAnew_0 : decode cX4_computeAnew 0 = .ok (.iconst 0, 1) := by decide +kernel
theorem dX4_computeAnew_1 : decode cX4_computeAnew 1 = .ok (.istore_n 1, 1) := by decide +kernel
theorem dX4_computeAnew_2 : decode cX4_computeAnew 2 = .ok (.iload_n 1, 1) := by decide +kernel
theorem dX4_computeAnew_3 : decode cX4_computeAnew 3 = .ok (.bipush 12, 2) := by decide +kernel
theorem dX4_computeAnew_5 : decode cX4_computeAnew 5 = .ok (.if_icmp .ge 33, 3) := by decide +kernel
theorem dX4_computeAnew_8 : decode cX4_computeAnew 8 = .ok (.aload_n 0, 1) := by decide +kernel
theorem dX4_computeAnew_9 : decode cX4_computeAnew 9 = .ok (.getfield 19, 3) := by decide +kernel
theorem dX4_computeAnew_12 : decode cX4_computeAnew 12 = .ok (.iload_n 1, 1) := by decide +kernel
theorem dX4_computeAnew_13 : decode cX4_computeAnew 13 = .ok (.aload_n 0, 1) := by decide +kernel
theorem dX4_computeAnew_14 : decode cX4_computeAnew 14 = .ok (.iload_n 1, 1) := by decide +kernel
theorem dX4_computeAnew_15 : decode cX4_computeAnew 15 = .ok (.invokevirtual 193, 3) := by decide +kernel
theorem dX4_computeAnew_18 : decode cX4_computeAnew 18 = .ok (.ifCond .eq 12, 3) := by decide +kernel
theorem dX4_computeAnew_21 : decode cX4_computeAnew 21 = .ok (.aload_n 0, 1) := by decide +kernel
theorem dX4_computeAnew_22 : decode cX4_computeAnew 22 = .ok (.getfield 9, 3) := by decide +kernel
theorem dX4_computeAnew_25 : decode cX4_computeAnew 25 = .ok (.iload_n 1, 1) := by decide +kernel
theorem dX4_computeAnew_26 : decode cX4_computeAnew 26 = .ok (.iaload, 1) := by decide +kernel
theorem dX4_computeAnew_27 : decode cX4_computeAnew 27 = .ok (.goto 4, 3) := by decide +kernel
theorem dX4_computeAnew_30 : decode cX4_computeAnew 30 = .ok (.iconst (-1), 1) := by decide +kernel
theorem dX4_computeAnew_31 : decode cX4_computeAnew 31 = .ok (.iastore, 1) := by decide +kernel
theorem dX4_computeAnew_32 : decode cX4_computeAnew 32 = .ok (.iinc 1 1, 3) := by decide +kernel
theorem dX4_computeAnew_35 : decode cX4_computeAnew 35 = .ok (.goto (-33), 3) := by decide +kernel
theorem dX4_computeAnew_38 : decode cX4_computeAnew 38 = .ok (.iconst 0, 1) := by decide +kernel
theorem dX4_computeAnew_39 : decode cX4_computeAnew 39 = .ok (.istore_n 1, 1) := by decide +kernel
theorem dX4_computeAnew_40 : decode cX4_computeAnew 40 = .ok (.iload_n 1, 1) := by decide +kernel
theorem dX4_computeAnew_41 : decode cX4_computeAnew 41 = .ok (.aload_n 0, 1) := by decide +kernel
theorem dX4_computeAnew_42 : decode cX4_computeAnew 42 = .ok (.getfield 91, 3) := by decide +kernel
theorem dX4_computeAnew_45 : decode cX4_computeAnew 45 = .ok (.if_icmp .ge 61, 3) := by decide +kernel
theorem dX4_computeAnew_48 : decode cX4_computeAnew 48 = .ok (.aload_n 0, 1) := by decide +kernel
theorem dX4_computeAnew_49 : decode cX4_computeAnew 49 = .ok (.getfield 24, 3) := by decide +kernel
theorem dX4_computeAnew_52 : decode cX4_computeAnew 52 = .ok (.iload_n 1, 1) := by decide +kernel
theorem dX4_computeAnew_53 : decode cX4_computeAnew 53 = .ok (.aaload, 1) := by decide +kernel
theorem dX4_computeAnew_54 : decode cX4_computeAnew 54 = .ok (.astore_n 2, 1) := by decide +kernel
theorem dX4_computeAnew_55 : decode cX4_computeAnew 55 = .ok (.aload_n 2, 1) := by decide +kernel
theorem dX4_computeAnew_56 : decode cX4_computeAnew 56 = .ok (.aload_n 0, 1) := by decide +kernel
theorem dX4_computeAnew_57 : decode cX4_computeAnew 57 = .ok (.getfield 19, 3) := by decide +kernel
theorem dX4_computeAnew_60 : decode cX4_computeAnew 60 = .ok (.invokestatic 290, 3) := by decide +kernel
theorem dX4_computeAnew_63 : decode cX4_computeAnew 63 = .ok (.iconst (-1), 1) := by decide +kernel
theorem dX4_computeAnew_64 : decode cX4_computeAnew 64 = .ok (.if_icmp .ne 36, 3) := by decide +kernel
theorem dX4_computeAnew_67 : decode cX4_computeAnew 67 = .ok (.aload_n 0, 1) := by decide +kernel
theorem dX4_computeAnew_68 : decode cX4_computeAnew 68 = .ok (.getfield 19, 3) := by decide +kernel
theorem dX4_computeAnew_71 : decode cX4_computeAnew 71 = .ok (.aload_n 2, 1) := by decide +kernel
theorem dX4_computeAnew_72 : decode cX4_computeAnew 72 = .ok (.getfield 109, 3) := by decide +kernel
theorem dX4_computeAnew_75 : decode cX4_computeAnew 75 = .ok (.aload_n 2, 1) := by decide +kernel
theorem dX4_computeAnew_76 : decode cX4_computeAnew 76 = .ok (.aload_n 0, 1) := by decide +kernel
theorem dX4_computeAnew_77 : decode cX4_computeAnew 77 = .ok (.getfield 19, 3) := by decide +kernel
theorem dX4_computeAnew_80 : decode cX4_computeAnew 80 = .ok (.aload_n 2, 1) := by decide +kernel
theorem dX4_computeAnew_81 : decode cX4_computeAnew 81 = .ok (.getfield 100, 3) := by decide +kernel
theorem dX4_computeAnew_84 : decode cX4_computeAnew 84 = .ok (.iaload, 1) := by decide +kernel
theorem dX4_computeAnew_85 : decode cX4_computeAnew 85 = .ok (.aload_n 2, 1) := by decide +kernel
theorem dX4_computeAnew_86 : decode cX4_computeAnew 86 = .ok (.getfield 103, 3) := by decide +kernel
theorem dX4_computeAnew_89 : decode cX4_computeAnew 89 = .ok (.aload_n 0, 1) := by decide +kernel
theorem dX4_computeAnew_90 : decode cX4_computeAnew 90 = .ok (.getfield 19, 3) := by decide +kernel
theorem dX4_computeAnew_93 : decode cX4_computeAnew 93 = .ok (.invokestatic 298, 3) := by decide +kernel
theorem dX4_computeAnew_96 : decode cX4_computeAnew 96 = .ok (.invokestatic 302, 3) := by decide +kernel
theorem dX4_computeAnew_99 : decode cX4_computeAnew 99 = .ok (.iastore, 1) := by decide +kernel
theorem dX4_computeAnew_100 : decode cX4_computeAnew 100 = .ok (.iinc 1 1, 3) := by decide +kernel
theorem dX4_computeAnew_103 : decode cX4_computeAnew 103 = .ok (.goto (-63), 3) := by decide +kernel
theorem dX4_computeAnew_106 : decode cX4_computeAnew 106 = .ok (.return_, 1) := by decide +kernel
theorem dX4_freshCellsAreRight_0 : decode cX4_freshCellsAreRight 0 = .ok (.aload_n 0, 1) := by decide +kernel
theorem dX4_freshCellsAreRight_1 : decode cX4_freshCellsAreRight 1 = .ok (.invokevirtual 158, 3) := by decide +kernel
theorem dX4_freshCellsAreRight_4 : decode cX4_freshCellsAreRight 4 = .ok (.aload_n 0, 1) := by decide +kernel
theorem dX4_freshCellsAreRight_5 : decode cX4_freshCellsAreRight 5 = .ok (.invokevirtual 163, 3) := by decide +kernel
theorem dX4_freshCellsAreRight_8 : decode cX4_freshCellsAreRight 8 = .ok (.istore_n 1, 1) := by decide +kernel
theorem dX4_freshCellsAreRight_9 : decode cX4_freshCellsAreRight 9 = .ok (.iconst 0, 1) := by decide +kernel
theorem dX4_freshCellsAreRight_10 : decode cX4_freshCellsAreRight 10 = .ok (.istore_n 2, 1) := by decide +kernel
theorem dX4_freshCellsAreRight_11 : decode cX4_freshCellsAreRight 11 = .ok (.iload_n 2, 1) := by decide +kernel
theorem dX4_freshCellsAreRight_12 : decode cX4_freshCellsAreRight 12 = .ok (.aload_n 0, 1) := by decide +kernel
theorem dX4_freshCellsAreRight_13 : decode cX4_freshCellsAreRight 13 = .ok (.getfield 91, 3) := by decide +kernel
theorem dX4_freshCellsAreRight_16 : decode cX4_freshCellsAreRight 16 = .ok (.if_icmp .ge 54, 3) := by decide +kernel
theorem dX4_freshCellsAreRight_19 : decode cX4_freshCellsAreRight 19 = .ok (.aload_n 0, 1) := by decide +kernel
theorem dX4_freshCellsAreRight_20 : decode cX4_freshCellsAreRight 20 = .ok (.getfield 24, 3) := by decide +kernel
theorem dX4_freshCellsAreRight_23 : decode cX4_freshCellsAreRight 23 = .ok (.iload_n 2, 1) := by decide +kernel
theorem dX4_freshCellsAreRight_24 : decode cX4_freshCellsAreRight 24 = .ok (.aaload, 1) := by decide +kernel
theorem dX4_freshCellsAreRight_25 : decode cX4_freshCellsAreRight 25 = .ok (.getfield 109, 3) := by decide +kernel
theorem dX4_freshCellsAreRight_28 : decode cX4_freshCellsAreRight 28 = .ok (.istore_n 3, 1) := by decide +kernel
theorem dX4_freshCellsAreRight_29 : decode cX4_freshCellsAreRight 29 = .ok (.iload_n 1, 1) := by decide +kernel
theorem dX4_freshCellsAreRight_30 : decode cX4_freshCellsAreRight 30 = .ok (.iload_n 2, 1) := by decide +kernel
theorem dX4_freshCellsAreRight_31 : decode cX4_freshCellsAreRight 31 = .ok (.invokestatic 189, 3) := by decide +kernel
theorem dX4_freshCellsAreRight_34 : decode cX4_freshCellsAreRight 34 = .ok (.ifCond .eq 30, 3) := by decide +kernel
theorem dX4_freshCellsAreRight_37 : decode cX4_freshCellsAreRight 37 = .ok (.aload_n 0, 1) := by decide +kernel
theorem dX4_freshCellsAreRight_38 : decode cX4_freshCellsAreRight 38 = .ok (.getfield 9, 3) := by decide +kernel
theorem dX4_freshCellsAreRight_41 : decode cX4_freshCellsAreRight 41 = .ok (.iload_n 3, 1) := by decide +kernel
theorem dX4_freshCellsAreRight_42 : decode cX4_freshCellsAreRight 42 = .ok (.iaload, 1) := by decide +kernel
theorem dX4_freshCellsAreRight_43 : decode cX4_freshCellsAreRight 43 = .ok (.iconst (-1), 1) := by decide +kernel
theorem dX4_freshCellsAreRight_44 : decode cX4_freshCellsAreRight 44 = .ok (.if_icmp .eq 18, 3) := by decide +kernel
theorem dX4_freshCellsAreRight_47 : decode cX4_freshCellsAreRight 47 = .ok (.aload_n 0, 1) := by decide +kernel
theorem dX4_freshCellsAreRight_48 : decode cX4_freshCellsAreRight 48 = .ok (.getfield 9, 3) := by decide +kernel
theorem dX4_freshCellsAreRight_51 : decode cX4_freshCellsAreRight 51 = .ok (.iload_n 3, 1) := by decide +kernel
theorem dX4_freshCellsAreRight_52 : decode cX4_freshCellsAreRight 52 = .ok (.iaload, 1) := by decide +kernel
theorem dX4_freshCellsAreRight_53 : decode cX4_freshCellsAreRight 53 = .ok (.aload_n 0, 1) := by decide +kernel
theorem dX4_freshCellsAreRight_54 : decode cX4_freshCellsAreRight 54 = .ok (.getfield 19, 3) := by decide +kernel
theorem dX4_freshCellsAreRight_57 : decode cX4_freshCellsAreRight 57 = .ok (.iload_n 3, 1) := by decide +kernel
theorem dX4_freshCellsAreRight_58 : decode cX4_freshCellsAreRight 58 = .ok (.iaload, 1) := by decide +kernel
theorem dX4_freshCellsAreRight_59 : decode cX4_freshCellsAreRight 59 = .ok (.if_icmp .eq 5, 3) := by decide +kernel
theorem dX4_freshCellsAreRight_62 : decode cX4_freshCellsAreRight 62 = .ok (.iconst 0, 1) := by decide +kernel
theorem dX4_freshCellsAreRight_63 : decode cX4_freshCellsAreRight 63 = .ok (.ireturn, 1) := by decide +kernel
theorem dX4_freshCellsAreRight_64 : decode cX4_freshCellsAreRight 64 = .ok (.iinc 2 1, 3) := by decide +kernel
theorem dX4_freshCellsAreRight_67 : decode cX4_freshCellsAreRight 67 = .ok (.goto (-56), 3) := by decide +kernel
theorem dX4_freshCellsAreRight_70 : decode cX4_freshCellsAreRight 70 = .ok (.iconst 1, 1) := by decide +kernel
theorem dX4_freshCellsAreRight_71 : decode cX4_freshCellsAreRight 71 = .ok (.ireturn, 1) := by decide +kernel
theorem dX4_kernelsAreRight_0 : decode cX4_kernelsAreRight 0 = .ok (.iconst 0, 1) := by decide +kernel
theorem dX4_kernelsAreRight_1 : decode cX4_kernelsAreRight 1 = .ok (.istore_n 1, 1) := by decide +kernel
theorem dX4_kernelsAreRight_2 : decode cX4_kernelsAreRight 2 = .ok (.iload_n 1, 1) := by decide +kernel
theorem dX4_kernelsAreRight_3 : decode cX4_kernelsAreRight 3 = .ok (.aload_n 0, 1) := by decide +kernel
theorem dX4_kernelsAreRight_4 : decode cX4_kernelsAreRight 4 = .ok (.getfield 198, 3) := by decide +kernel
