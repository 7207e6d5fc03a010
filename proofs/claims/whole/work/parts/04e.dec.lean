theorem dX5_addKernel_35 : decode cX5_addKernel 35 = .ok (.ireturn, 1) := by decide +kernel
theorem dX5_addKernel_36 : decode cX5_addKernel 36 = .ok (.aload_n 0, 1) := by decide +kernel
theorem dX5_addKernel_37 : decode cX5_addKernel 37 = .ok (.getfield 90, 3) := by decide +kernel
theorem dX5_addKernel_40 : decode cX5_addKernel 40 = .ok (.aload_n 0, 1) := by decide +kernel
theorem dX5_addKernel_41 : decode cX5_addKernel 41 = .ok (.getfield 171, 3) := by decide +kernel
theorem dX5_addKernel_44 : decode cX5_addKernel 44 = .ok (.iload_n 1, 1) := by decide +kernel
theorem dX5_addKernel_45 : decode cX5_addKernel 45 = .ok (.iastore, 1) := by decide +kernel
theorem dX5_addKernel_46 : decode cX5_addKernel 46 = .ok (.aload_n 0, 1) := by decide +kernel
theorem dX5_addKernel_47 : decode cX5_addKernel 47 = .ok (.dup, 1) := by decide +kernel
theorem dX5_addKernel_48 : decode cX5_addKernel 48 = .ok (.getfield 171, 3) := by decide +kernel
theorem dX5_addKernel_51 : decode cX5_addKernel 51 = .ok (.iconst 1, 1) := by decide +kernel
theorem dX5_addKernel_52 : decode cX5_addKernel 52 = .ok (.iadd, 1) := by decide +kernel
theorem dX5_addKernel_53 : decode cX5_addKernel 53 = .ok (.putfield 171, 3) := by decide +kernel
theorem dX5_addKernel_56 : decode cX5_addKernel 56 = .ok (.aload_n 0, 1) := by decide +kernel
theorem dX5_addKernel_57 : decode cX5_addKernel 57 = .ok (.getfield 171, 3) := by decide +kernel
theorem dX5_addKernel_60 : decode cX5_addKernel 60 = .ok (.iconst 1, 1) := by decide +kernel
theorem dX5_addKernel_61 : decode cX5_addKernel 61 = .ok (.isub, 1) := by decide +kernel
theorem dX5_addKernel_62 : decode cX5_addKernel 62 = .ok (.ireturn, 1) := by decide +kernel
theorem dX5_free_0 : decode cX5_free 0 = .ok (.aload_n 0, 1) := by decide +kernel
theorem dX5_free_1 : decode cX5_free 1 = .ok (.iload_n 1, 1) := by decide +kernel
theorem dX5_free_2 : decode cX5_free 2 = .ok (.iconst 0, 1) := by decide +kernel
theorem dX5_free_3 : decode cX5_free 3 = .ok (.aload_n 0, 1) := by decide +kernel
theorem dX5_free_4 : decode cX5_free 4 = .ok (.getfield 171, 3) := by decide +kernel
theorem dX5_free_7 : decode cX5_free 7 = .ok (.iconst 1, 1) := by decide +kernel
theorem dX5_free_8 : decode cX5_free 8 = .ok (.isub, 1) := by decide +kernel
theorem dX5_free_9 : decode cX5_free 9 = .ok (.invokestatic 112, 3) := by decide +kernel
theorem dX5_free_12 : decode cX5_free 12 = .ok (.ifCond .eq 7, 3) := by decide +kernel
theorem dX5_free_15 : decode cX5_free 15 = .ok (.iconst 0, 1) := by decide +kernel
theorem dX5_free_16 : decode cX5_free 16 = .ok (.goto 4, 3) := by decide +kernel
theorem dX5_free_19 : decode cX5_free 19 = .ok (.iconst 1, 1) := by decide +kernel
theorem dX5_free_20 : decode cX5_free 20 = .ok (.invokevirtual 119, 3) := by decide +kernel
theorem dX5_free_23 : decode cX5_free 23 = .ok (.ifCond .eq 7, 3) := by decide +kernel
theorem dX5_free_26 : decode cX5_free 26 = .ok (.iconst 0, 1) := by decide +kernel
theorem dX5_free_27 : decode cX5_free 27 = .ok (.goto 8, 3) := by decide +kernel
theorem dX5_free_30 : decode cX5_free 30 = .ok (.aload_n 0, 1) := by decide +kernel
theorem dX5_free_31 : decode cX5_free 31 = .ok (.iload_n 1, 1) := by decide +kernel
theorem dX5_free_32 : decode cX5_free 32 = .ok (.invokevirtual 174, 3) := by decide +kernel
theorem dX5_free_35 : decode cX5_free 35 = .ok (.ireturn, 1) := by decide +kernel
theorem dX5_schedule_0 : decode cX5_schedule 0 = .ok (.aload_n 0, 1) := by decide +kernel
theorem dX5_schedule_1 : decode cX5_schedule 1 = .ok (.iload_n 1, 1) := by decide +kernel
theorem dX5_schedule_2 : decode cX5_schedule 2 = .ok (.invokevirtual 140, 3) := by decide +kernel
theorem dX5_schedule_5 : decode cX5_schedule 5 = .ok (.ifCond .ne 25, 3) := by decide +kernel
theorem dX5_schedule_8 : decode cX5_schedule 8 = .ok (.aload_n 0, 1) := by decide +kernel
theorem dX5_schedule_9 : decode cX5_schedule 9 = .ok (.iload_n 2, 1) := by decide +kernel
theorem dX5_schedule_10 : decode cX5_schedule 10 = .ok (.iconst 0, 1) := by decide +kernel
theorem dX5_schedule_11 : decode cX5_schedule 11 = .ok (.bipush 50, 2) := by decide +kernel
theorem dX5_schedule_13 : decode cX5_schedule 13 = .ok (.invokestatic 112, 3) := by decide +kernel
theorem dX5_schedule_16 : decode cX5_schedule 16 = .ok (.ifCond .eq 7, 3) := by decide +kernel
theorem dX5_schedule_19 : decode cX5_schedule 19 = .ok (.iconst 0, 1) := by decide +kernel
theorem dX5_schedule_20 : decode cX5_schedule 20 = .ok (.goto 4, 3) := by decide +kernel
theorem dX5_schedule_23 : decode cX5_schedule 23 = .ok (.iconst 2, 1) := by decide +kernel
theorem dX5_schedule_24 : decode cX5_schedule 24 = .ok (.invokevirtual 119, 3) := by decide +kernel
theorem dX5_schedule_27 : decode cX5_schedule 27 = .ok (.ifCond .eq 5, 3) := by decide +kernel
theorem dX5_schedule_30 : decode cX5_schedule 30 = .ok (.iconst 0, 1) := by decide +kernel
theorem dX5_schedule_31 : decode cX5_schedule 31 = .ok (.ireturn, 1) := by decide +kernel
theorem dX5_schedule_32 : decode cX5_schedule 32 = .ok (.aload_n 0, 1) := by decide +kernel
theorem dX5_schedule_33 : decode cX5_schedule 33 = .ok (.getfield 45, 3) := by decide +kernel
theorem dX5_schedule_36 : decode cX5_schedule 36 = .ok (.iload_n 1, 1) := by decide +kernel
theorem dX5_schedule_37 : decode cX5_schedule 37 = .ok (.iaload, 1) := by decide +kernel
theorem dX5_schedule_38 : decode cX5_schedule 38 = .ok (.istore_n 3, 1) := by decide +kernel
theorem dX5_schedule_39 : decode cX5_schedule 39 = .ok (.aload_n 0, 1) := by decide +kernel
theorem dX5_schedule_40 : decode cX5_schedule 40 = .ok (.getfield 45, 3) := by decide +kernel
theorem dX5_schedule_43 : decode cX5_schedule 43 = .ok (.iload_n 1, 1) := by decide +kernel
theorem dX5_schedule_44 : decode cX5_schedule 44 = .ok (.iload_n 2, 1) := by decide +kernel
theorem dX5_schedule_45 : decode cX5_schedule 45 = .ok (.iastore, 1) := by decide +kernel
theorem dX5_schedule_46 : decode cX5_schedule 46 = .ok (.iload_n 3, 1) := by decide +kernel
theorem dX5_schedule_47 : decode cX5_schedule 47 = .ok (.ireturn, 1) := by decide +kernel
theorem dX5_frees_0 : decode cX5_frees 0 = .ok (.iconst 0, 1) := by decide +kernel
theorem dX5_frees_1 : decode cX5_frees 1 = .ok (.istore_n 1, 1) := by decide +kernel
theorem dX5_frees_2 : decode cX5_frees 2 = .ok (.iconst 0, 1) := by decide +kernel
theorem dX5_frees_3 : decode cX5_frees 3 = .ok (.istore_n 2, 1) := by decide +kernel
theorem dX5_frees_4 : decode cX5_frees 4 = .ok (.iload_n 2, 1) := by decide +kernel
theorem dX5_frees_5 : decode cX5_frees 5 = .ok (.aload_n 0, 1) := by decide +kernel
theorem dX5_frees_6 : decode cX5_frees 6 = .ok (.getfield 168, 3) := by decide +kernel
theorem dX5_frees_9 : decode cX5_frees 9 = .ok (.if_icmp .ge 64, 3) := by decide +kernel
theorem dX5_frees_12 : decode cX5_frees 12 = .ok (.aload_n 0, 1) := by decide +kernel
theorem dX5_frees_13 : decode cX5_frees 13 = .ok (.getfield 99, 3) := by decide +kernel
theorem dX5_frees_16 : decode cX5_frees 16 = .ok (.iload_n 2, 1) := by decide +kernel
theorem dX5_frees_17 : decode cX5_frees 17 = .ok (.iaload, 1) := by decide +kernel
theorem dX5_frees_18 : decode cX5_frees 18 = .ok (.aload_n 0, 1) := by decide +kernel
theorem dX5_frees_19 : decode cX5_frees 19 = .ok (.getfield 177, 3) := by decide +kernel
theorem dX5_frees_22 : decode cX5_frees 22 = .ok (.if_icmp .gt 6, 3) := by decide +kernel
theorem dX5_frees_25 : decode cX5_frees 25 = .ok (.goto 42, 3) := by decide +kernel
theorem dX5_frees_28 : decode cX5_frees 28 = .ok (.aload_n 0, 1) := by decide +kernel
theorem dX5_frees_29 : decode cX5_frees 29 = .ok (.getfield 93, 3) := by decide +kernel
theorem dX5_frees_32 : decode cX5_frees 32 = .ok (.iload_n 1, 1) := by decide +kernel
theorem dX5_frees_33 : decode cX5_frees 33 = .ok (.aload_n 0, 1) := by decide +kernel
theorem dX5_frees_34 : decode cX5_frees 34 = .ok (.getfield 93, 3) := by decide +kernel
theorem dX5_frees_37 : decode cX5_frees 37 = .ok (.iload_n 2, 1) := by decide +kernel
theorem dX5_frees_38 : decode cX5_frees 38 = .ok (.iaload, 1) := by decide +kernel
theorem dX5_frees_39 : decode cX5_frees 39 = .ok (.iastore, 1) := by decide +kernel
theorem dX5_frees_40 : decode cX5_frees 40 = .ok (.aload_n 0, 1) := by decide +kernel
theorem dX5_frees_41 : decode cX5_frees 41 = .ok (.getfield 96, 3) := by decide +kernel
theorem dX5_frees_44 : decode cX5_frees 44 = .ok (.iload_n 1, 1) := by decide +kernel
theorem dX5_frees_45 : decode cX5_frees 45 = .ok (.aload_n 0, 1) := by decide +kernel
theorem dX5_frees_46 : decode cX5_frees 46 = .ok (.getfield 96, 3) := by decide +kernel
theorem dX5_frees_49 : decode cX5_frees 49 = .ok (.iload_n 2, 1) := by decide +kernel
theorem dX5_frees_50 : decode cX5_frees 50 = .ok (.iaload, 1) := by decide +kernel
theorem dX5_frees_51 : decode cX5_frees 51 = .ok (.iastore, 1) := by decide +kernel
theorem dX5_frees_52 : decode cX5_frees 52 = .ok (.aload_n 0, 1) := by decide +kernel
theorem dX5_frees_53 : decode cX5_frees 53 = .ok (.getfield 99, 3) := by decide +kernel
theorem dX5_frees_56 : decode cX5_frees 56 = .ok (.iload_n 1, 1) := by decide +kernel
theorem dX5_frees_57 : decode cX5_frees 57 = .ok (.aload_n 0, 1) := by decide +kernel
theorem dX5_frees_58 : decode cX5_frees 58 = .ok (.getfield 99, 3) := by decide +kernel
theorem dX5_frees_61 : decode cX5_frees 61 = .ok (.iload_n 2, 1) := by decide +kernel
theorem dX5_frees_62 : decode cX5_frees 62 = .ok (.iaload, 1) := by decide +kernel
theorem dX5_frees_63 : decode cX5_frees 63 = .ok (.iastore, 1) := by decide +kernel
theorem dX5_frees_64 : decode cX5_frees 64 = .ok (.iinc 1 1, 3) := by decide +kernel
theorem dX5_frees_67 : decode cX5_frees 67 = .ok (.iinc 2 1, 3) := by decide +kernel
theorem dX5_frees_70 : decode cX5_frees 70 = .ok (.goto (-66), 3) := by decide +kernel
theorem dX5_frees_73 : decode cX5_frees 73 = .ok (.aload_n 0, 1) := by decide +kernel
theorem dX5_frees_74 : decode cX5_frees 74 = .ok (.iload_n 1, 1) := by decide +kernel
theorem dX5_frees_75 : decode cX5_frees 75 = .ok (.putfield 168, 3) := by decide +kernel
theorem dX5_frees_78 : decode cX5_frees 78 = .ok (.return_, 1) := by decide +kernel
theorem dX5_ticks_0 : decode cX5_ticks 0 = .ok (.aload_n 0, 1) := by decide +kernel
theorem dX5_ticks_1 : decode cX5_ticks 1 = .ok (.dup, 1) := by decide +kernel
theorem dX5_ticks_2 : decode cX5_ticks 2 = .ok (.getfield 177, 3) := by decide +kernel
theorem dX5_ticks_5 : decode cX5_ticks 5 = .ok (.iconst 1, 1) := by decide +kernel
theorem dX5_ticks_6 : decode cX5_ticks 6 = .ok (.iadd, 1) := by decide +kernel
theorem dX5_ticks_7 : decode cX5_ticks 7 = .ok (.putfield 177, 3) := by decide +kernel
theorem dX5_ticks_10 : decode cX5_ticks 10 = .ok (.aload_n 0, 1) := by decide +kernel
theorem dX5_ticks_11 : decode cX5_ticks 11 = .ok (.invokevirtual 231, 3) := by decide +kernel
theorem dX5_ticks_14 : decode cX5_ticks 14 = .ok (.iconst 0, 1) := by decide +kernel
theorem dX5_ticks_15 : decode cX5_ticks 15 = .ok (.istore_n 1, 1) := by decide +kernel
theorem dX5_ticks_16 : decode cX5_ticks 16 = .ok (.iconst 0, 1) := by decide +kernel
theorem dX5_ticks_17 : decode cX5_ticks 17 = .ok (.istore_n 2, 1) := by decide +kernel
theorem dX5_ticks_18 : decode cX5_ticks 18 = .ok (.iload_n 2, 1) := by decide +kernel
theorem dX5_ticks_19 : decode cX5_ticks 19 = .ok (.aload_n 0, 1) := by decide +kernel
theorem dX5_ticks_20 : decode cX5_ticks 20 = .ok (.getfield 116, 3) := by decide +kernel
theorem dX5_ticks_23 : decode cX5_ticks 23 = .ok (.if_icmp .ge 69, 3) := by decide +kernel
theorem dX5_ticks_26 : decode cX5_ticks 26 = .ok (.aload_n 0, 1) := by decide +kernel
theorem dX5_ticks_27 : decode cX5_ticks 27 = .ok (.getfield 45, 3) := by decide +kernel
theorem dX5_ticks_30 : decode cX5_ticks 30 = .ok (.iload_n 2, 1) := by decide +kernel
theorem dX5_ticks_31 : decode cX5_ticks 31 = .ok (.iaload, 1) := by decide +kernel
theorem dX5_ticks_32 : decode cX5_ticks 32 = .ok (.ifCond .eq 54, 3) := by decide +kernel
theorem dX5_ticks_35 : decode cX5_ticks 35 = .ok (.aload_n 0, 1) := by decide +kernel
theorem dX5_ticks_36 : decode cX5_ticks 36 = .ok (.getfield 177, 3) := by decide +kernel
theorem dX5_ticks_39 : decode cX5_ticks 39 = .ok (.aload_n 0, 1) := by decide +kernel
theorem dX5_ticks_40 : decode cX5_ticks 40 = .ok (.getfield 45, 3) := by decide +kernel
theorem dX5_ticks_43 : decode cX5_ticks 43 = .ok (.iload_n 2, 1) := by decide +kernel
theorem dX5_ticks_44 : decode cX5_ticks 44 = .ok (.iaload, 1) := by decide +kernel
theorem dX5_ticks_45 : decode cX5_ticks 45 = .ok (.irem, 1) := by decide +kernel
theorem dX5_ticks_46 : decode cX5_ticks 46 = .ok (.ifCond .gt 40, 3) := by decide +kernel
theorem dX5_ticks_49 : decode cX5_ticks 49 = .ok (.aload_n 0, 1) := by decide +kernel
theorem dX5_ticks_50 : decode cX5_ticks 50 = .ok (.iload_n 2, 1) := by decide +kernel
theorem dX5_ticks_51 : decode cX5_ticks 51 = .ok (.invokevirtual 211, 3) := by decide +kernel
theorem dX5_ticks_54 : decode cX5_ticks 54 = .ok (.ifCond .eq 6, 3) := by decide +kernel
theorem dX5_ticks_57 : decode cX5_ticks 57 = .ok (.goto 29, 3) := by decide +kernel
theorem dX5_ticks_60 : decode cX5_ticks 60 = .ok (.aload_n 0, 1) := by decide +kernel
theorem dX5_ticks_61 : decode cX5_ticks 61 = .ok (.iload_n 2, 1) := by decide +kernel
theorem dX5_ticks_62 : decode cX5_ticks 62 = .ok (.invokevirtual 207, 3) := by decide +kernel
theorem dX5_ticks_65 : decode cX5_ticks 65 = .ok (.istore_n 3, 1) := by decide +kernel
theorem dX5_ticks_66 : decode cX5_ticks 66 = .ok (.iload_n 1, 1) := by decide +kernel
theorem dX5_ticks_67 : decode cX5_ticks 67 = .ok (.iload_n 3, 1) := by decide +kernel
theorem dX5_ticks_68 : decode cX5_ticks 68 = .ok (.bipush 114, 2) := by decide +kernel
theorem dX5_ticks_70 : decode cX5_ticks 70 = .ok (.if_icmp .eq 9, 3) := by decide +kernel
theorem dX5_ticks_73 : decode cX5_ticks 73 = .ok (.iload_n 3, 1) := by decide +kernel
theorem dX5_ticks_74 : decode cX5_ticks 74 = .ok (.bipush 104, 2) := by decide +kernel
theorem dX5_ticks_76 : decode cX5_ticks 76 = .ok (.if_icmp .ne 7, 3) := by decide +kernel
theorem dX5_ticks_79 : decode cX5_ticks 79 = .ok (.iconst 1, 1) := by decide +kernel
theorem dX5_ticks_80 : decode cX5_ticks 80 = .ok (.goto 4, 3) := by decide +kernel
theorem dX5_ticks_83 : decode cX5_ticks 83 = .ok (.iconst 0, 1) := by decide +kernel
theorem dX5_ticks_84 : decode cX5_ticks 84 = .ok (.iadd, 1) := by decide +kernel
theorem dX5_ticks_85 : decode cX5_ticks 85 = .ok (.istore_n 1, 1) := by decide +kernel
theorem dX5_ticks_86 : decode cX5_ticks 86 = .ok (.iinc 2 1, 3) := by decide +kernel
theorem dX5_ticks_89 : decode cX5_ticks 89 = .ok (.goto (-71), 3) := by decide +kernel
theorem dX5_ticks_92 : decode cX5_ticks 92 = .ok (.iload_n 1, 1) := by decide +kernel
theorem dX5_ticks_93 : decode cX5_ticks 93 = .ok (.ireturn, 1) := by decide +kernel
theorem dX5_pass_0 : decode cX5_pass 0 = .ok (.aload_n 0, 1) := by decide +kernel
theorem dX5_pass_1 : decode cX5_pass 1 = .ok (.iload_n 1, 1) := by decide +kernel
theorem dX5_pass_2 : decode cX5_pass 2 = .ok (.iconst 1, 1) := by decide +kernel
theorem dX5_pass_3 : decode cX5_pass 3 = .ok (.bipush 50, 2) := by decide +kernel
theorem dX5_pass_5 : decode cX5_pass 5 = .ok (.invokestatic 112, 3) := by decide +kernel
theorem dX5_pass_8 : decode cX5_pass 8 = .ok (.ifCond .ne 7, 3) := by decide +kernel
theorem dX5_pass_11 : decode cX5_pass 11 = .ok (.iconst 1, 1) := by decide +kernel
theorem dX5_pass_12 : decode cX5_pass 12 = .ok (.goto 20, 3) := by decide +kernel
theorem dX5_pass_15 : decode cX5_pass 15 = .ok (.aload_n 0, 1) := by decide +kernel
theorem dX5_pass_16 : decode cX5_pass 16 = .ok (.getfield 177, 3) := by decide +kernel
theorem dX5_pass_19 : decode cX5_pass 19 = .ok (.iload_n 1, 1) := by decide +kernel
theorem dX5_pass_20 : decode cX5_pass 20 = .ok (.iadd, 1) := by decide +kernel
theorem dX5_pass_21 : decode cX5_pass 21 = .ok (.sipush 5000, 3) := by decide +kernel
theorem dX5_pass_24 : decode cX5_pass 24 = .ok (.if_icmp .le 7, 3) := by decide +kernel
theorem dX5_pass_27 : decode cX5_pass 27 = .ok (.iconst 2, 1) := by decide +kernel
theorem dX5_pass_28 : decode cX5_pass 28 = .ok (.goto 4, 3) := by decide +kernel
theorem dX5_pass_31 : decode cX5_pass 31 = .ok (.iconst 0, 1) := by decide +kernel
theorem dX5_pass_32 : decode cX5_pass 32 = .ok (.invokevirtual 119, 3) := by decide +kernel
theorem dX5_pass_35 : decode cX5_pass 35 = .ok (.ifCond .eq 5, 3) := by decide +kernel
theorem dX5_pass_38 : decode cX5_pass 38 = .ok (.iconst 0, 1) := by decide +kernel
theorem dX5_pass_39 : decode cX5_pass 39 = .ok (.ireturn, 1) := by decide +kernel
theorem dX5_pass_40 : decode cX5_pass 40 = .ok (.iconst 0, 1) := by decide +kernel
theorem dX5_pass_41 : decode cX5_pass 41 = .ok (.istore_n 2, 1) := by decide +kernel
theorem dX5_pass_42 : decode cX5_pass 42 = .ok (.iconst 0, 1) := by decide +kernel
theorem dX5_pass_43 : decode cX5_pass 43 = .ok (.istore_n 3, 1) := by decide +kernel
theorem dX5_pass_44 : decode cX5_pass 44 = .ok (.iload_n 3, 1) := by decide +kernel
theorem dX5_pass_45 : decode cX5_pass 45 = .ok (.iload_n 1, 1) := by decide +kernel
theorem dX5_pass_46 : decode cX5_pass 46 = .ok (.if_icmp .ge 16, 3) := by decide +kernel
theorem dX5_pass_49 : decode cX5_pass 49 = .ok (.iload_n 2, 1) := by decide +kernel
theorem dX5_pass_50 : decode cX5_pass 50 = .ok (.aload_n 0, 1) := by decide +kernel
theorem dX5_pass_51 : decode cX5_pass 51 = .ok (.invokevirtual 234, 3) := by decide +kernel
theorem dX5_pass_54 : decode cX5_pass 54 = .ok (.iadd, 1) := by decide +kernel
theorem dX5_pass_55 : decode cX5_pass 55 = .ok (.istore_n 2, 1) := by decide +kernel
theorem dX5_pass_56 : decode cX5_pass 56 = .ok (.iinc 3 1, 3) := by decide +kernel
theorem dX5_pass_59 : decode cX5_pass 59 = .ok (.goto (-15), 3) := by decide +kernel
theorem dX5_pass_62 : decode cX5_pass 62 = .ok (.iload_n 2, 1) := by decide +kernel
theorem dX5_pass_63 : decode cX5_pass 63 = .ok (.ireturn, 1) := by decide +kernel
theorem dX5_tick_0 : decode cX5_tick 0 = .ok (.aload_n 0, 1) := by decide +kernel
theorem dX5_tick_1 : decode cX5_tick 1 = .ok (.aload_n 0, 1) := by decide +kernel
theorem dX5_tick_2 : decode cX5_tick 2 = .ok (.getfield 177, 3) := by decide +kernel
theorem dX5_tick_5 : decode cX5_tick 5 = .ok (.invokevirtual 143, 3) := by decide +kernel
theorem dX5_tick_8 : decode cX5_tick 8 = .ok (.ireturn, 1) := by decide +kernel
theorem dX5_work_0 : decode cX5_work 0 = .ok (.aload_n 0, 1) := by decide +kernel
theorem dX5_work_1 : decode cX5_work 1 = .ok (.iconst 0, 1) := by decide +kernel
theorem dX5_work_2 : decode cX5_work 2 = .ok (.putfield 108, 3) := by decide +kernel
theorem dX5_work_5 : decode cX5_work 5 = .ok (.aload_n 0, 1) := by decide +kernel
theorem dX5_work_6 : decode cX5_work 6 = .ok (.getfield 180, 3) := by decide +kernel
theorem dX5_work_9 : decode cX5_work 9 = .ok (.lreturn, 1) := by decide +kernel
theorem dX5_load_0 : decode cX5_load 0 = .ok (.aload_n 0, 1) := by decide +kernel
theorem dX5_load_1 : decode cX5_load 1 = .ok (.aload_n 0, 1) := by decide +kernel
theorem dX5_load_2 : decode cX5_load 2 = .ok (.getfield 171, 3) := by decide +kernel
theorem dX5_load_5 : decode cX5_load 5 = .ok (.ifCond .ne 7, 3) := by decide +kernel
theorem dX5_load_8 : decode cX5_load 8 = .ok (.iconst 1, 1) := by decide +kernel
theorem dX5_load_9 : decode cX5_load 9 = .ok (.goto 4, 3) := by decide +kernel
theorem dX5_load_12 : decode cX5_load 12 = .ok (.iconst 0, 1) := by decide +kernel
theorem dX5_load_13 : decode cX5_load 13 = .ok (.invokevirtual 119, 3) := by decide +kernel
theorem dX5_load_16 : decode cX5_load 16 = .ok (.ifCond .eq 5, 3) := by decide +kernel
theorem dX5_load_19 : decode cX5_load 19 = .ok (.fconst 0, 1) := by decide +kernel
theorem dX5_load_20 : decode cX5_load 20 = .ok (.freturn, 1) := by decide +kernel
theorem dX5_load_21 : decode cX5_load 21 = .ok (.iconst 0, 1) := by decide +kernel
theorem dX5_load_22 : decode cX5_load 22 = .ok (.istore_n 1, 1) := by decide +kernel
theorem dX5_load_23 : decode cX5_load 23 = .ok (.iconst 0, 1) := by decide +kernel
theorem dX5_load_24 : decode cX5_load 24 = .ok (.istore_n 2, 1) := by decide +kernel
theorem dX5_load_25 : decode cX5_load 25 = .ok (.iconst 0, 1) := by decide +kernel
theorem dX5_load_26 : decode cX5_load 26 = .ok (.istore_n 3, 1) := by decide +kernel
theorem dX5_load_27 : decode cX5_load 27 = .ok (.iload_n 3, 1) := by decide +kernel
theorem dX5_load_28 : decode cX5_load 28 = .ok (.aload_n 0, 1) := by decide +kernel
theorem dX5_load_29 : decode cX5_load 29 = .ok (.getfield 171, 3) := by decide +kernel
theorem dX5_load_32 : decode cX5_load 32 = .ok (.if_icmp .ge 26, 3) := by decide +kernel
theorem dX5_load_35 : decode cX5_load 35 = .ok (.iload_n 1, 1) := by decide +kernel
theorem dX5_load_36 : decode cX5_load 36 = .ok (.aload_n 0, 1) := by decide +kernel
theorem dX5_load_37 : decode cX5_load 37 = .ok (.getfield 90, 3) := by decide +kernel
theorem dX5_load_40 : decode cX5_load 40 = .ok (.iload_n 3, 1) := by decide +kernel
theorem dX5_load_41 : decode cX5_load 41 = .ok (.iaload, 1) := by decide +kernel
theorem dX5_load_42 : decode cX5_load 42 = .ok (.iadd, 1) := by decide +kernel
theorem dX5_load_43 : decode cX5_load 43 = .ok (.istore_n 1, 1) := by decide +kernel
theorem dX5_load_44 : decode cX5_load 44 = .ok (.iload_n 2, 1) := by decide +kernel
theorem dX5_load_45 : decode cX5_load 45 = .ok (.aload_n 0, 1) := by decide +kernel
theorem dX5_load_46 : decode cX5_load 46 = .ok (.iload_n 3, 1) := by decide +kernel
theorem dX5_load_47 : decode cX5_load 47 = .ok (.invokevirtual 174, 3) := by decide +kernel
theorem dX5_load_50 : decode cX5_load 50 = .ok (.iadd, 1) := by decide +kernel
theorem dX5_load_51 : decode cX5_load 51 = .ok (.istore_n 2, 1) := by decide +kernel
theorem dX5_load_52 : decode cX5_load 52 = .ok (.iinc 3 1, 3) := by decide +kernel
theorem dX5_load_55 : decode cX5_load 55 = .ok (.goto (-28), 3) := by decide +kernel
theorem dX5_load_58 : decode cX5_load 58 = .ok (.iload_n 1, 1) := by decide +kernel
theorem dX5_load_59 : decode cX5_load 59 = .ok (.iload_n 2, 1) := by decide +kernel
theorem dX5_load_60 : decode cX5_load 60 = .ok (.isub, 1) := by decide +kernel
theorem dX5_load_61 : decode cX5_load 61 = .ok (.i2f, 1) := by decide +kernel
theorem dX5_load_62 : decode cX5_load 62 = .ok (.iload_n 1, 1) := by decide +kernel
theorem dX5_load_63 : decode cX5_load 63 = .ok (.i2f, 1) := by decide +kernel
theorem dX5_load_64 : decode cX5_load 64 = .ok (.fdiv, 1) := by decide +kernel
theorem dX5_load_65 : decode cX5_load 65 = .ok (.freturn, 1) := by decide +kernel
theorem dX5_meanValue_0 : decode cX5_meanValue 0 = .ok (.iconst 0, 1) := by decide +kernel
theorem dX5_meanValue_1 : decode cX5_meanValue 1 = .ok (.istore_n 1, 1) := by decide +kernel
theorem dX5_meanValue_2 : decode cX5_meanValue 2 = .ok (.iconst 0, 1) := by decide +kernel
theorem dX5_meanValue_3 : decode cX5_meanValue 3 = .ok (.istore_n 2, 1) := by decide +kernel
theorem dX5_meanValue_4 : decode cX5_meanValue 4 = .ok (.iconst 0, 1) := by decide +kernel
theorem dX5_meanValue_5 : decode cX5_meanValue 5 = .ok (.istore_n 3, 1) := by decide +kernel
theorem dX5_meanValue_6 : decode cX5_meanValue 6 = .ok (.iload_n 3, 1) := by decide +kernel
theorem dX5_meanValue_7 : decode cX5_meanValue 7 = .ok (.bipush 12, 2) := by decide +kernel
theorem dX5_meanValue_9 : decode cX5_meanValue 9 = .ok (.if_icmp .ge 33, 3) := by decide +kernel
theorem dX5_meanValue_12 : decode cX5_meanValue 12 = .ok (.aload_n 0, 1) := by decide +kernel
theorem dX5_meanValue_13 : decode cX5_meanValue 13 = .ok (.getfield 17, 3) := by decide +kernel
theorem dX5_meanValue_16 : decode cX5_meanValue 16 = .ok (.iload_n 3, 1) := by decide +kernel
theorem dX5_meanValue_17 : decode cX5_meanValue 17 = .ok (.iaload, 1) := by decide +kernel
theorem dX5_meanValue_18 : decode cX5_meanValue 18 = .ok (.ifCond .ge 6, 3) := by decide +kernel
theorem dX5_meanValue_21 : decode cX5_meanValue 21 = .ok (.goto 15, 3) := by decide +kernel
theorem dX5_meanValue_24 : decode cX5_meanValue 24 = .ok (.iload_n 1, 1) := by decide +kernel
theorem dX5_meanValue_25 : decode cX5_meanValue 25 = .ok (.aload_n 0, 1) := by decide +kernel
theorem dX5_meanValue_26 : decode cX5_meanValue 26 = .ok (.getfield 17, 3) := by decide +kernel
theorem dX5_meanValue_29 : decode cX5_meanValue 29 = .ok (.iload_n 3, 1) := by decide +kernel
theorem dX5_meanValue_30 : decode cX5_meanValue 30 = .ok (.iaload, 1) := by decide +kernel
theorem dX5_meanValue_31 : decode cX5_meanValue 31 = .ok (.iadd, 1) := by decide +kernel
theorem dX5_meanValue_32 : decode cX5_meanValue 32 = .ok (.istore_n 1, 1) := by decide +kernel
theorem dX5_meanValue_33 : decode cX5_meanValue 33 = .ok (.iinc 2 1, 3) := by decide +kernel
theorem dX5_meanValue_36 : decode cX5_meanValue 36 = .ok (.iinc 3 1, 3) := by decide +kernel
theorem dX5_meanValue_39 : decode cX5_meanValue 39 = .ok (.goto (-33), 3) := by decide +kernel
theorem dX5_meanValue_42 : decode cX5_meanValue 42 = .ok (.aload_n 0, 1) := by decide +kernel
theorem dX5_meanValue_43 : decode cX5_meanValue 43 = .ok (.iload_n 2, 1) := by decide +kernel
theorem dX5_meanValue_44 : decode cX5_meanValue 44 = .ok (.ifCond .ne 7, 3) := by decide +kernel
theorem dX5_meanValue_47 : decode cX5_meanValue 47 = .ok (.iconst 1, 1) := by decide +kernel
theorem dX5_meanValue_48 : decode cX5_meanValue 48 = .ok (.goto 4, 3) := by decide +kernel
theorem dX5_meanValue_51 : decode cX5_meanValue 51 = .ok (.iconst 0, 1) := by decide +kernel
theorem dX5_meanValue_52 : decode cX5_meanValue 52 = .ok (.invokevirtual 119, 3) := by decide +kernel
theorem dX5_meanValue_55 : decode cX5_meanValue 55 = .ok (.ifCond .eq 7, 3) := by decide +kernel
theorem dX5_meanValue_58 : decode cX5_meanValue 58 = .ok (.dconst 0, 1) := by decide +kernel
theorem dX5_meanValue_59 : decode cX5_meanValue 59 = .ok (.goto 8, 3) := by decide +kernel
theorem dX5_meanValue_62 : decode cX5_meanValue 62 = .ok (.iload_n 1, 1) := by decide +kernel
theorem dX5_meanValue_63 : decode cX5_meanValue 63 = .ok (.i2d, 1) := by decide +kernel
theorem dX5_meanValue_64 : decode cX5_meanValue 64 = .ok (.iload_n 2, 1) := by decide +kernel
theorem dX5_meanValue_65 : decode cX5_meanValue 65 = .ok (.i2d, 1) := by decide +kernel
theorem dX5_meanValue_66 : decode cX5_meanValue 66 = .ok (.ddiv, 1) := by decide +kernel
theorem dX5_meanValue_67 : decode cX5_meanValue 67 = .ok (.dreturn, 1) := by decide +kernel
theorem dX5_publish_0 : decode cX5_publish 0 = .ok (.aload_n 0, 1) := by decide +kernel
theorem dX5_publish_1 : decode cX5_publish 1 = .ok (.iload_n 1, 1) := by decide +kernel
theorem dX5_publish_2 : decode cX5_publish 2 = .ok (.invokevirtual 140, 3) := by decide +kernel
theorem dX5_publish_5 : decode cX5_publish 5 = .ok (.ifCond .ne 32, 3) := by decide +kernel
theorem dX5_publish_8 : decode cX5_publish 8 = .ok (.aload_n 0, 1) := by decide +kernel
theorem dX5_publish_9 : decode cX5_publish 9 = .ok (.aload_n 0, 1) := by decide +kernel
theorem dX5_publish_10 : decode cX5_publish 10 = .ok (.iload_n 1, 1) := by decide +kernel
theorem dX5_publish_11 : decode cX5_publish 11 = .ok (.invokevirtual 211, 3) := by decide +kernel
theorem dX5_publish_14 : decode cX5_publish 14 = .ok (.ifCond .eq 12, 3) := by decide +kernel
theorem dX5_publish_17 : decode cX5_publish 17 = .ok (.aload_n 0, 1) := by decide +kernel
theorem dX5_publish_18 : decode cX5_publish 18 = .ok (.getfield 237, 3) := by decide +kernel
theorem dX5_publish_21 : decode cX5_publish 21 = .ok (.bipush 20, 2) := by decide +kernel
theorem dX5_publish_23 : decode cX5_publish 23 = .ok (.if_icmp .ne 7, 3) := by decide +kernel
theorem dX5_publish_26 : decode cX5_publish 26 = .ok (.iconst 2, 1) := by decide +kernel
theorem dX5_publish_27 : decode cX5_publish 27 = .ok (.goto 4, 3) := by decide +kernel
theorem dX5_publish_30 : decode cX5_publish 30 = .ok (.iconst 0, 1) := by decide +kernel
theorem dX5_publish_31 : decode cX5_publish 31 = .ok (.invokevirtual 119, 3) := by decide +kernel
theorem dX5_publish_34 : decode cX5_publish 34 = .ok (.ifCond .eq 5, 3) := by decide +kernel
theorem dX5_publish_37 : decode cX5_publish 37 = .ok (.iconst 0, 1) := by decide +kernel
theorem dX5_publish_38 : decode cX5_publish 38 = .ok (.ireturn, 1) := by decide +kernel
theorem dX5_publish_39 : decode cX5_publish 39 = .ok (.aload_n 0, 1) := by decide +kernel
theorem dX5_publish_40 : decode cX5_publish 40 = .ok (.getfield 102, 3) := by decide +kernel
theorem dX5_publish_43 : decode cX5_publish 43 = .ok (.aload_n 0, 1) := by decide +kernel
theorem dX5_publish_44 : decode cX5_publish 44 = .ok (.getfield 237, 3) := by decide +kernel
theorem dX5_publish_47 : decode cX5_publish 47 = .ok (.iload_n 1, 1) := by decide +kernel
theorem dX5_publish_48 : decode cX5_publish 48 = .ok (.iastore, 1) := by decide +kernel
theorem dX5_publish_49 : decode cX5_publish 49 = .ok (.aload_n 0, 1) := by decide +kernel
theorem dX5_publish_50 : decode cX5_publish 50 = .ok (.getfield 105, 3) := by decide +kernel
theorem dX5_publish_53 : decode cX5_publish 53 = .ok (.aload_n 0, 1) := by decide +kernel
theorem dX5_publish_54 : decode cX5_publish 54 = .ok (.getfield 237, 3) := by decide +kernel
theorem dX5_publish_57 : decode cX5_publish 57 = .ok (.aload_n 0, 1) := by decide +kernel
theorem dX5_publish_58 : decode cX5_publish 58 = .ok (.getfield 17, 3) := by decide +kernel
theorem dX5_publish_61 : decode cX5_publish 61 = .ok (.aload_n 0, 1) := by decide +kernel
theorem dX5_publish_62 : decode cX5_publish 62 = .ok (.getfield 36, 3) := by decide +kernel
theorem dX5_publish_65 : decode cX5_publish 65 = .ok (.iload_n 1, 1) := by decide +kernel
theorem dX5_publish_66 : decode cX5_publish 66 = .ok (.iaload, 1) := by decide +kernel
theorem dX5_publish_67 : decode cX5_publish 67 = .ok (.iaload, 1) := by decide +kernel
theorem dX5_publish_68 : decode cX5_publish 68 = .ok (.iastore, 1) := by decide +kernel
theorem dX5_publish_69 : decode cX5_publish 69 = .ok (.aload_n 0, 1) := by decide +kernel
theorem dX5_publish_70 : decode cX5_publish 70 = .ok (.dup, 1) := by decide +kernel
theorem dX5_publish_71 : decode cX5_publish 71 = .ok (.getfield 237, 3) := by decide +kernel
theorem dX5_publish_74 : decode cX5_publish 74 = .ok (.iconst 1, 1) := by decide +kernel
theorem dX5_publish_75 : decode cX5_publish 75 = .ok (.iadd, 1) := by decide +kernel
theorem dX5_publish_76 : decode cX5_publish 76 = .ok (.putfield 237, 3) := by decide +kernel
theorem dX5_publish_79 : decode cX5_publish 79 = .ok (.aload_n 0, 1) := by decide +kernel
theorem dX5_publish_80 : decode cX5_publish 80 = .ok (.getfield 237, 3) := by decide +kernel
theorem dX5_publish_83 : decode cX5_publish 83 = .ok (.iconst 1, 1) := by decide +kernel
theorem dX5_publish_84 : decode cX5_publish 84 = .ok (.isub, 1) := by decide +kernel
theorem dX5_publish_85 : decode cX5_publish 85 = .ok (.ireturn, 1) := by decide +kernel
theorem dX5_isNoView_0 : decode cX5_isNoView 0 = .ok (.aload_n 0, 1) := by decide +kernel
theorem dX5_isNoView_1 : decode cX5_isNoView 1 = .ok (.iload_n 1, 1) := by decide +kernel
theorem dX5_isNoView_2 : decode cX5_isNoView 2 = .ok (.iconst 0, 1) := by decide +kernel
theorem dX5_isNoView_3 : decode cX5_isNoView 3 = .ok (.aload_n 0, 1) := by decide +kernel
theorem dX5_isNoView_4 : decode cX5_isNoView 4 = .ok (.getfield 237, 3) := by decide +kernel
theorem dX5_isNoView_7 : decode cX5_isNoView 7 = .ok (.iconst 1, 1) := by decide +kernel
theorem dX5_isNoView_8 : decode cX5_isNoView 8 = .ok (.isub, 1) := by decide +kernel
theorem dX5_isNoView_9 : decode cX5_isNoView 9 = .ok (.invokestatic 112, 3) := by decide +kernel
theorem dX5_isNoView_12 : decode cX5_isNoView 12 = .ok (.ifCond .eq 7, 3) := by decide +kernel
theorem dX5_isNoView_15 : decode cX5_isNoView 15 = .ok (.iconst 0, 1) := by decide +kernel
theorem dX5_isNoView_16 : decode cX5_isNoView 16 = .ok (.goto 4, 3) := by decide +kernel
theorem dX5_isNoView_19 : decode cX5_isNoView 19 = .ok (.iconst 1, 1) := by decide +kernel
theorem dX5_isNoView_20 : decode cX5_isNoView 20 = .ok (.invokevirtual 119, 3) := by decide +kernel
theorem dX5_isNoView_23 : decode cX5_isNoView 23 = .ok (.ireturn, 1) := by decide +kernel
theorem dX5_held_0 : decode cX5_held 0 = .ok (.aload_n 0, 1) := by decide +kernel
theorem dX5_held_1 : decode cX5_held 1 = .ok (.iload_n 1, 1) := by decide +kernel
theorem dX5_held_2 : decode cX5_held 2 = .ok (.invokevirtual 240, 3) := by decide +kernel
theorem dX5_held_5 : decode cX5_held 5 = .ok (.ifCond .eq 7, 3) := by decide +kernel
theorem dX5_held_8 : decode cX5_held 8 = .ok (.iconst 0, 1) := by decide +kernel
theorem dX5_held_9 : decode cX5_held 9 = .ok (.goto 9, 3) := by decide +kernel
theorem dX5_held_12 : decode cX5_held 12 = .ok (.aload_n 0, 1) := by decide +kernel
theorem dX5_held_13 : decode cX5_held 13 = .ok (.getfield 105, 3) := by decide +kernel
theorem dX5_held_16 : decode cX5_held 16 = .ok (.iload_n 1, 1) := by decide +kernel
theorem dX5_held_17 : decode cX5_held 17 = .ok (.iaload, 1) := by decide +kernel
theorem dX5_held_18 : decode cX5_held 18 = .ok (.ireturn, 1) := by decide +kernel
theorem dX5_isCurrent_0 : decode cX5_isCurrent 0 = .ok (.aload_n 0, 1) := by decide +kernel
theorem dX5_isCurrent_1 : decode cX5_isCurrent 1 = .ok (.iload_n 1, 1) := by decide +kernel
theorem dX5_isCurrent_2 : decode cX5_isCurrent 2 = .ok (.invokevirtual 240, 3) := by decide +kernel
theorem dX5_isCurrent_5 : decode cX5_isCurrent 5 = .ok (.ifCond .ne 45, 3) := by decide +kernel
theorem dX5_isCurrent_8 : decode cX5_isCurrent 8 = .ok (.aload_n 0, 1) := by decide +kernel
theorem dX5_isCurrent_9 : decode cX5_isCurrent 9 = .ok (.aload_n 0, 1) := by decide +kernel
theorem dX5_isCurrent_10 : decode cX5_isCurrent 10 = .ok (.getfield 102, 3) := by decide +kernel
theorem dX5_isCurrent_13 : decode cX5_isCurrent 13 = .ok (.iload_n 1, 1) := by decide +kernel
theorem dX5_isCurrent_14 : decode cX5_isCurrent 14 = .ok (.iaload, 1) := by decide +kernel
theorem dX5_isCurrent_15 : decode cX5_isCurrent 15 = .ok (.invokevirtual 211, 3) := by decide +kernel
theorem dX5_isCurrent_18 : decode cX5_isCurrent 18 = .ok (.ifCond .eq 32, 3) := by decide +kernel
theorem dX5_isCurrent_21 : decode cX5_isCurrent 21 = .ok (.aload_n 0, 1) := by decide +kernel
theorem dX5_isCurrent_22 : decode cX5_isCurrent 22 = .ok (.getfield 17, 3) := by decide +kernel
theorem dX5_isCurrent_25 : decode cX5_isCurrent 25 = .ok (.aload_n 0, 1) := by decide +kernel
theorem dX5_isCurrent_26 : decode cX5_isCurrent 26 = .ok (.getfield 36, 3) := by decide +kernel
theorem dX5_isCurrent_29 : decode cX5_isCurrent 29 = .ok (.aload_n 0, 1) := by decide +kernel
theorem dX5_isCurrent_30 : decode cX5_isCurrent 30 = .ok (.getfield 102, 3) := by decide +kernel
theorem dX5_isCurrent_33 : decode cX5_isCurrent 33 = .ok (.iload_n 1, 1) := by decide +kernel
theorem dX5_isCurrent_34 : decode cX5_isCurrent 34 = .ok (.iaload, 1) := by decide +kernel
theorem dX5_isCurrent_35 : decode cX5_isCurrent 35 = .ok (.iaload, 1) := by decide +kernel
theorem dX5_isCurrent_36 : decode cX5_isCurrent 36 = .ok (.iaload, 1) := by decide +kernel
theorem dX5_isCurrent_37 : decode cX5_isCurrent 37 = .ok (.aload_n 0, 1) := by decide +kernel
theorem dX5_isCurrent_38 : decode cX5_isCurrent 38 = .ok (.getfield 105, 3) := by decide +kernel
theorem dX5_isCurrent_41 : decode cX5_isCurrent 41 = .ok (.iload_n 1, 1) := by decide +kernel
theorem dX5_isCurrent_42 : decode cX5_isCurrent 42 = .ok (.iaload, 1) := by decide +kernel
theorem dX5_isCurrent_43 : decode cX5_isCurrent 43 = .ok (.if_icmp .ne 7, 3) := by decide +kernel
theorem dX5_isCurrent_46 : decode cX5_isCurrent 46 = .ok (.iconst 1, 1) := by decide +kernel
theorem dX5_isCurrent_47 : decode cX5_isCurrent 47 = .ok (.goto 4, 3) := by decide +kernel
theorem dX5_isCurrent_50 : decode cX5_isCurrent 50 = .ok (.iconst 0, 1) := by decide +kernel
theorem dX5_isCurrent_51 : decode cX5_isCurrent 51 = .ok (.ireturn, 1) := by decide +kernel
theorem dX5_isSound_0 : decode cX5_isSound 0 = .ok (.aload_n 0, 1) := by decide +kernel
theorem dX5_isSound_1 : decode cX5_isSound 1 = .ok (.iconst 0, 1) := by decide +kernel
theorem dX5_isSound_2 : decode cX5_isSound 2 = .ok (.putfield 108, 3) := by decide +kernel
theorem dX5_isSound_5 : decode cX5_isSound 5 = .ok (.iconst 0, 1) := by decide +kernel
theorem dX5_isSound_6 : decode cX5_isSound 6 = .ok (.istore_n 1, 1) := by decide +kernel
theorem dX5_isSound_7 : decode cX5_isSound 7 = .ok (.iload_n 1, 1) := by decide +kernel
theorem dX5_isSound_8 : decode cX5_isSound 8 = .ok (.aload_n 0, 1) := by decide +kernel
theorem dX5_isSound_9 : decode cX5_isSound 9 = .ok (.getfield 116, 3) := by decide +kernel
theorem dX5_isSound_12 : decode cX5_isSound 12 = .ok (.if_icmp .ge 38, 3) := by decide +kernel
theorem dX5_isSound_15 : decode cX5_isSound 15 = .ok (.aload_n 0, 1) := by decide +kernel
theorem dX5_isSound_16 : decode cX5_isSound 16 = .ok (.iload_n 1, 1) := by decide +kernel
theorem dX5_isSound_17 : decode cX5_isSound 17 = .ok (.invokevirtual 211, 3) := by decide +kernel
theorem dX5_isSound_20 : decode cX5_isSound 20 = .ok (.ifCond .eq 24, 3) := by decide +kernel
theorem dX5_isSound_23 : decode cX5_isSound 23 = .ok (.aload_n 0, 1) := by decide +kernel
theorem dX5_isSound_24 : decode cX5_isSound 24 = .ok (.getfield 17, 3) := by decide +kernel
theorem dX5_isSound_27 : decode cX5_isSound 27 = .ok (.aload_n 0, 1) := by decide +kernel
theorem dX5_isSound_28 : decode cX5_isSound 28 = .ok (.getfield 36, 3) := by decide +kernel
theorem dX5_isSound_31 : decode cX5_isSound 31 = .ok (.iload_n 1, 1) := by decide +kernel
theorem dX5_isSound_32 : decode cX5_isSound 32 = .ok (.iaload, 1) := by decide +kernel
theorem dX5_isSound_33 : decode cX5_isSound 33 = .ok (.iaload, 1) := by decide +kernel
theorem dX5_isSound_34 : decode cX5_isSound 34 = .ok (.aload_n 0, 1) := by decide +kernel
theorem dX5_isSound_35 : decode cX5_isSound 35 = .ok (.iload_n 1, 1) := by decide +kernel
theorem dX5_isSound_36 : decode cX5_isSound 36 = .ok (.invokevirtual 158, 3) := by decide +kernel
theorem dX5_isSound_39 : decode cX5_isSound 39 = .ok (.if_icmp .eq 5, 3) := by decide +kernel
theorem dX5_isSound_42 : decode cX5_isSound 42 = .ok (.iconst 0, 1) := by decide +kernel
theorem dX5_isSound_43 : decode cX5_isSound 43 = .ok (.ireturn, 1) := by decide +kernel
theorem dX5_isSound_44 : decode cX5_isSound 44 = .ok (.iinc 1 1, 3) := by decide +kernel
theorem dX5_isSound_47 : decode cX5_isSound 47 = .ok (.goto (-40), 3) := by decide +kernel
theorem dX5_isSound_50 : decode cX5_isSound 50 = .ok (.iconst 0, 1) := by decide +kernel
theorem dX5_isSound_51 : decode cX5_isSound 51 = .ok (.istore_n 1, 1) := by decide +kernel
theorem dX5_isSound_52 : decode cX5_isSound 52 = .ok (.iload_n 1, 1) := by decide +kernel
theorem dX5_isSound_53 : decode cX5_isSound 53 = .ok (.aload_n 0, 1) := by decide +kernel
theorem dX5_isSound_54 : decode cX5_isSound 54 = .ok (.getfield 171, 3) := by decide +kernel
theorem dX5_isSound_57 : decode cX5_isSound 57 = .ok (.if_icmp .ge 19, 3) := by decide +kernel
theorem dX5_isSound_60 : decode cX5_isSound 60 = .ok (.aload_n 0, 1) := by decide +kernel
theorem dX5_isSound_61 : decode cX5_isSound 61 = .ok (.iload_n 1, 1) := by decide +kernel
theorem dX5_isSound_62 : decode cX5_isSound 62 = .ok (.invokevirtual 174, 3) := by decide +kernel
theorem dX5_isSound_65 : decode cX5_isSound 65 = .ok (.ifCond .ge 5, 3) := by decide +kernel
theorem dX5_isSound_68 : decode cX5_isSound 68 = .ok (.iconst 0, 1) := by decide +kernel
theorem dX5_isSound_69 : decode cX5_isSound 69 = .ok (.ireturn, 1) := by decide +kernel
theorem dX5_isSound_70 : decode cX5_isSound 70 = .ok (.iinc 1 1, 3) := by decide +kernel
theorem dX5_isSound_73 : decode cX5_isSound 73 = .ok (.goto (-21), 3) := by decide +kernel
theorem dX5_isSound_76 : decode cX5_isSound 76 = .ok (.iconst 1, 1) := by decide +kernel
theorem dX5_isSound_77 : decode cX5_isSound 77 = .ok (.ireturn, 1) := by decide +kernel
theorem dJ6_bitCount_0f7a4_0 : decode cJ6_bitCount_0f7a4 0 = .ok (.iload_n 0, 1) := by decide +kernel
theorem dJ6_bitCount_0f7a4_1 : decode cJ6_bitCount_0f7a4 1 = .ok (.iload_n 0, 1) := by decide +kernel
theorem dJ6_bitCount_0f7a4_2 : decode cJ6_bitCount_0f7a4 2 = .ok (.iconst 1, 1) := by decide +kernel
theorem dJ6_bitCount_0f7a4_3 : decode cJ6_bitCount_0f7a4 3 = .ok (.iushr, 1) := by decide +kernel
theorem dJ6_bitCount_0f7a4_4 : decode cJ6_bitCount_0f7a4 4 = .ok (.ldc_w 265, 3) := by decide +kernel
theorem dJ6_bitCount_0f7a4_7 : decode cJ6_bitCount_0f7a4 7 = .ok (.iand, 1) := by decide +kernel
theorem dJ6_bitCount_0f7a4_8 : decode cJ6_bitCount_0f7a4 8 = .ok (.isub, 1) := by decide +kernel
theorem dJ6_bitCount_0f7a4_9 : decode cJ6_bitCount_0f7a4 9 = .ok (.istore_n 0, 1) := by decide +kernel
theorem dJ6_bitCount_0f7a4_10 : decode cJ6_bitCount_0f7a4 10 = .ok (.iload_n 0, 1) := by decide +kernel
theorem dJ6_bitCount_0f7a4_11 : decode cJ6_bitCount_0f7a4 11 = .ok (.ldc_w 266, 3) := by decide +kernel
theorem dJ6_bitCount_0f7a4_14 : decode cJ6_bitCount_0f7a4 14 = .ok (.iand, 1) := by decide +kernel
theorem dJ6_bitCount_0f7a4_15 : decode cJ6_bitCount_0f7a4 15 = .ok (.iload_n 0, 1) := by decide +kernel
theorem dJ6_bitCount_0f7a4_16 : decode cJ6_bitCount_0f7a4 16 = .ok (.iconst 2, 1) := by decide +kernel
theorem dJ6_bitCount_0f7a4_17 : decode cJ6_bitCount_0f7a4 17 = .ok (.iushr, 1) := by decide +kernel
theorem dJ6_bitCount_0f7a4_18 : decode cJ6_bitCount_0f7a4 18 = .ok (.ldc_w 266, 3) := by decide +kernel
theorem dJ6_bitCount_0f7a4_21 : decode cJ6_bitCount_0f7a4 21 = .ok (.iand, 1) := by decide +kernel
theorem dJ6_bitCount_0f7a4_22 : decode cJ6_bitCount_0f7a4 22 = .ok (.iadd, 1) := by decide +kernel
theorem dJ6_bitCount_0f7a4_23 : decode cJ6_bitCount_0f7a4 23 = .ok (.istore_n 0, 1) := by decide +kernel
theorem dJ6_bitCount_0f7a4_24 : decode cJ6_bitCount_0f7a4 24 = .ok (.iload_n 0, 1) := by decide +kernel
theorem dJ6_bitCount_0f7a4_25 : decode cJ6_bitCount_0f7a4 25 = .ok (.iload_n 0, 1) := by decide +kernel
theorem dJ6_bitCount_0f7a4_26 : decode cJ6_bitCount_0f7a4 26 = .ok (.iconst 4, 1) := by decide +kernel
theorem dJ6_bitCount_0f7a4_27 : decode cJ6_bitCount_0f7a4 27 = .ok (.iushr, 1) := by decide +kernel
theorem dJ6_bitCount_0f7a4_28 : decode cJ6_bitCount_0f7a4 28 = .ok (.iadd, 1) := by decide +kernel
theorem dJ6_bitCount_0f7a4_29 : decode cJ6_bitCount_0f7a4 29 = .ok (.ldc_w 267, 3) := by decide +kernel
theorem dJ6_bitCount_0f7a4_32 : decode cJ6_bitCount_0f7a4 32 = .ok (.iand, 1) := by decide +kernel
theorem dJ6_bitCount_0f7a4_33 : decode cJ6_bitCount_0f7a4 33 = .ok (.istore_n 0, 1) := by decide +kernel
theorem dJ6_bitCount_0f7a4_34 : decode cJ6_bitCount_0f7a4 34 = .ok (.iload_n 0, 1) := by decide +kernel
theorem dJ6_bitCount_0f7a4_35 : decode cJ6_bitCount_0f7a4 35 = .ok (.iload_n 0, 1) := by decide +kernel
theorem dJ6_bitCount_0f7a4_36 : decode cJ6_bitCount_0f7a4 36 = .ok (.bipush 8, 2) := by decide +kernel
theorem dJ6_bitCount_0f7a4_38 : decode cJ6_bitCount_0f7a4 38 = .ok (.iushr, 1) := by decide +kernel
theorem dJ6_bitCount_0f7a4_39 : decode cJ6_bitCount_0f7a4 39 = .ok (.iadd, 1) := by decide +kernel
theorem dJ6_bitCount_0f7a4_40 : decode cJ6_bitCount_0f7a4 40 = .ok (.istore_n 0, 1) := by decide +kernel
theorem dJ6_bitCount_0f7a4_41 : decode cJ6_bitCount_0f7a4 41 = .ok (.iload_n 0, 1) := by decide +kernel
theorem dJ6_bitCount_0f7a4_42 : decode cJ6_bitCount_0f7a4 42 = .ok (.iload_n 0, 1) := by decide +kernel
theorem dJ6_bitCount_0f7a4_43 : decode cJ6_bitCount_0f7a4 43 = .ok (.bipush 16, 2) := by decide +kernel
theorem dJ6_bitCount_0f7a4_45 : decode cJ6_bitCount_0f7a4 45 = .ok (.iushr, 1) := by decide +kernel
theorem dJ6_bitCount_0f7a4_46 : decode cJ6_bitCount_0f7a4 46 = .ok (.iadd, 1) := by decide +kernel
theorem dJ6_bitCount_0f7a4_47 : decode cJ6_bitCount_0f7a4 47 = .ok (.istore_n 0, 1) := by decide +kernel
theorem dJ6_bitCount_0f7a4_48 : decode cJ6_bitCount_0f7a4 48 = .ok (.iload_n 0, 1) := by decide +kernel
theorem dJ6_bitCount_0f7a4_49 : decode cJ6_bitCount_0f7a4 49 = .ok (.bipush 63, 2) := by decide +kernel
theorem dJ6_bitCount_0f7a4_51 : decode cJ6_bitCount_0f7a4 51 = .ok (.iand, 1) := by decide +kernel
theorem dJ6_bitCount_0f7a4_52 : decode cJ6_bitCount_0f7a4 52 = .ok (.ireturn, 1) := by decide +kernel
theorem dJ9_floorMod_7cf53_0 : decode cJ9_floorMod_7cf53 0 = .ok (.iload_n 0, 1) := by decide +kernel
theorem dJ9_floorMod_7cf53_1 : decode cJ9_floorMod_7cf53 1 = .ok (.iload_n 1, 1) := by decide +kernel
theorem dJ9_floorMod_7cf53_2 : decode cJ9_floorMod_7cf53 2 = .ok (.irem, 1) := by decide +kernel
theorem dJ9_floorMod_7cf53_3 : decode cJ9_floorMod_7cf53 3 = .ok (.istore_n 2, 1) := by decide +kernel
theorem dJ9_floorMod_7cf53_4 : decode cJ9_floorMod_7cf53 4 = .ok (.iload_n 0, 1) := by decide +kernel
theorem dJ9_floorMod_7cf53_5 : decode cJ9_floorMod_7cf53 5 = .ok (.iload_n 1, 1) := by decide +kernel
theorem dJ9_floorMod_7cf53_6 : decode cJ9_floorMod_7cf53 6 = .ok (.ixor, 1) := by decide +kernel
theorem dJ9_floorMod_7cf53_7 : decode cJ9_floorMod_7cf53 7 = .ok (.ifCond .ge 11, 3) := by decide +kernel
theorem dJ9_floorMod_7cf53_10 : decode cJ9_floorMod_7cf53 10 = .ok (.iload_n 2, 1) := by decide +kernel
theorem dJ9_floorMod_7cf53_11 : decode cJ9_floorMod_7cf53 11 = .ok (.ifCond .eq 7, 3) := by decide +kernel
theorem dJ9_floorMod_7cf53_14 : decode cJ9_floorMod_7cf53 14 = .ok (.iload_n 2, 1) := by decide +kernel
theorem dJ9_floorMod_7cf53_15 : decode cJ9_floorMod_7cf53 15 = .ok (.iload_n 1, 1) := by decide +kernel
theorem dJ9_floorMod_7cf53_16 : decode cJ9_floorMod_7cf53 16 = .ok (.iadd, 1) := by decide +kernel
theorem dJ9_floorMod_7cf53_17 : decode cJ9_floorMod_7cf53 17 = .ok (.ireturn, 1) := by decide +kernel
theorem dJ9_floorMod_7cf53_18 : decode cJ9_floorMod_7cf53 18 = .ok (.iload_n 2, 1) := by decide +kernel
theorem dJ9_floorMod_7cf53_19 : decode cJ9_floorMod_7cf53 19 = .ok (.ireturn, 1) := by decide +kernel
theorem dJ9_abs_0f7a4_0 : decode cJ9_abs_0f7a4 0 = .ok (.iload_n 0, 1) := by decide +kernel
theorem dJ9_abs_0f7a4_1 : decode cJ9_abs_0f7a4 1 = .ok (.ifCond .ge 8, 3) := by decide +kernel
theorem dJ9_abs_0f7a4_4 : decode cJ9_abs_0f7a4 4 = .ok (.iload_n 0, 1) := by decide +kernel
theorem dJ9_abs_0f7a4_5 : decode cJ9_abs_0f7a4 5 = .ok (.ineg, 1) := by decide +kernel
theorem dJ9_abs_0f7a4_6 : decode cJ9_abs_0f7a4 6 = .ok (.goto 4, 3) := by decide +kernel
theorem dJ9_abs_0f7a4_9 : decode cJ9_abs_0f7a4 9 = .ok (.iload_n 0, 1) := by decide +kernel
theorem dJ9_abs_0f7a4_10 : decode cJ9_abs_0f7a4 10 = .ok (.ireturn, 1) := by decide +kernel
theorem dL_addData_0 : decode cL_addData 0 = .ok (.aload 4, 2) := by decide +kernel
theorem dL_addData_2 : decode cL_addData 2 = .ok (.iconst 0, 1) := by decide +kernel
theorem dL_addData_3 : decode cL_addData 3 = .ok (.aload_n 0, 1) := by decide +kernel
theorem dL_addData_4 : decode cL_addData 4 = .ok (.iload_n 1, 1) := by decide +kernel
theorem dL_addData_5 : decode cL_addData 5 = .ok (.iload_n 2, 1) := by decide +kernel
theorem dL_addData_6 : decode cL_addData 6 = .ok (.iload_n 3, 1) := by decide +kernel
theorem dL_addData_7 : decode cL_addData 7 = .ok (.invokevirtual 7, 3) := by decide +kernel
theorem dL_addData_10 : decode cL_addData 10 = .ok (.i2l, 1) := by decide +kernel
theorem dL_addData_11 : decode cL_addData 11 = .ok (.lastore, 1) := by decide +kernel
theorem dL_addData_12 : decode cL_addData 12 = .ok (.goto 11, 3) := by decide +kernel
theorem dL_addData_15 : decode cL_addData 15 = .ok (.astore 5, 2) := by decide +kernel
theorem dL_addData_17 : decode cL_addData 17 = .ok (.iconst 1, 1) := by decide +kernel
theorem dL_addData_18 : decode cL_addData 18 = .ok (.ireturn, 1) := by decide +kernel
theorem dL_addData_19 : decode cL_addData 19 = .ok (.astore 5, 2) := by decide +kernel
theorem dL_addData_21 : decode cL_addData 21 = .ok (.iconst 2, 1) := by decide +kernel
theorem dL_addData_22 : decode cL_addData 22 = .ok (.ireturn, 1) := by decide +kernel
theorem dL_addData_23 : decode cL_addData 23 = .ok (.iconst 0, 1) := by decide +kernel
theorem dL_addData_24 : decode cL_addData 24 = .ok (.ireturn, 1) := by decide +kernel
theorem dL_setData_0 : decode cL_setData 0 = .ok (.aload_n 3, 1) := by decide +kernel
theorem dL_setData_1 : decode cL_setData 1 = .ok (.iconst 0, 1) := by decide +kernel
theorem dL_setData_2 : decode cL_setData 2 = .ok (.aload_n 0, 1) := by decide +kernel
theorem dL_setData_3 : decode cL_setData 3 = .ok (.iload_n 1, 1) := by decide +kernel
theorem dL_setData_4 : decode cL_setData 4 = .ok (.iload_n 2, 1) := by decide +kernel
theorem dL_setData_5 : decode cL_setData 5 = .ok (.invokevirtual 17, 3) := by decide +kernel
theorem dL_setData_8 : decode cL_setData 8 = .ok (.i2l, 1) := by decide +kernel
theorem dL_setData_9 : decode cL_setData 9 = .ok (.lastore, 1) := by decide +kernel
theorem dL_setData_10 : decode cL_setData 10 = .ok (.goto 11, 3) := by decide +kernel
theorem dL_setData_13 : decode cL_setData 13 = .ok (.astore 4, 2) := by decide +kernel
theorem dL_setData_15 : decode cL_setData 15 = .ok (.iconst 1, 1) := by decide +kernel
theorem dL_setData_16 : decode cL_setData 16 = .ok (.ireturn, 1) := by decide +kernel
theorem dL_setData_17 : decode cL_setData 17 = .ok (.astore 4, 2) := by decide +kernel
theorem dL_setData_19 : decode cL_setData 19 = .ok (.iconst 2, 1) := by decide +kernel
theorem dL_setData_20 : decode cL_setData 20 = .ok (.ireturn, 1) := by decide +kernel
theorem dL_setData_21 : decode cL_setData 21 = .ok (.iconst 0, 1) := by decide +kernel
theorem dL_setData_22 : decode cL_setData 22 = .ok (.ireturn, 1) := by decide +kernel
theorem dL_loseData_0 : decode cL_loseData 0 = .ok (.aload_n 2, 1) := by decide +kernel
theorem dL_loseData_1 : decode cL_loseData 1 = .ok (.iconst 0, 1) := by decide +kernel
theorem dL_loseData_2 : decode cL_loseData 2 = .ok (.aload_n 0, 1) := by decide +kernel
theorem dL_loseData_3 : decode cL_loseData 3 = .ok (.iload_n 1, 1) := by decide +kernel
theorem dL_loseData_4 : decode cL_loseData 4 = .ok (.invokevirtual 23, 3) := by decide +kernel
theorem dL_loseData_7 : decode cL_loseData 7 = .ok (.i2l, 1) := by decide +kernel
theorem dL_loseData_8 : decode cL_loseData 8 = .ok (.lastore, 1) := by decide +kernel
theorem dL_loseData_9 : decode cL_loseData 9 = .ok (.goto 12, 3) := by decide +kernel
theorem dL_loseData_12 : decode cL_loseData 12 = .ok (.astore_n 3, 1) := by decide +kernel
theorem dL_loseData_13 : decode cL_loseData 13 = .ok (.iconst 1, 1) := by decide +kernel
theorem dL_loseData_14 : decode cL_loseData 14 = .ok (.ireturn, 1) := by decide +kernel
theorem dL_loseData_15 : decode cL_loseData 15 = .ok (.astore_n 3, 1) := by decide +kernel
theorem dL_loseData_16 : decode cL_loseData 16 = .ok (.iconst 2, 1) := by decide +kernel
theorem dL_loseData_17 : decode cL_loseData 17 = .ok (.ireturn, 1) := by decide +kernel
theorem dL_loseData_18 : decode cL_loseData 18 = .ok (.astore_n 3, 1) := by decide +kernel
theorem dL_loseData_19 : decode cL_loseData 19 = .ok (.iconst 3, 1) := by decide +kernel
theorem dL_loseData_20 : decode cL_loseData 20 = .ok (.ireturn, 1) := by decide +kernel
theorem dL_loseData_21 : decode cL_loseData 21 = .ok (.iconst 0, 1) := by decide +kernel
theorem dL_loseData_22 : decode cL_loseData 22 = .ok (.ireturn, 1) := by decide +kernel
theorem dL_addCell_0 : decode cL_addCell 0 = .ok (.aload 8, 2) := by decide +kernel
theorem dL_addCell_2 : decode cL_addCell 2 = .ok (.iconst 0, 1) := by decide +kernel
theorem dL_addCell_3 : decode cL_addCell 3 = .ok (.aload_n 0, 1) := by decide +kernel
theorem dL_addCell_4 : decode cL_addCell 4 = .ok (.iload_n 1, 1) := by decide +kernel
theorem dL_addCell_5 : decode cL_addCell 5 = .ok (.iload_n 2, 1) := by decide +kernel
theorem dL_addCell_6 : decode cL_addCell 6 = .ok (.iload_n 3, 1) := by decide +kernel
theorem dL_addCell_7 : decode cL_addCell 7 = .ok (.iload 4, 2) := by decide +kernel
theorem dL_addCell_9 : decode cL_addCell 9 = .ok (.iload 5, 2) := by decide +kernel
theorem dL_addCell_11 : decode cL_addCell 11 = .ok (.iload 6, 2) := by decide +kernel
theorem dL_addCell_13 : decode cL_addCell 13 = .ok (.iload 7, 2) := by decide +kernel
theorem dL_addCell_15 : decode cL_addCell 15 = .ok (.invokevirtual 27, 3) := by decide +kernel
theorem dL_addCell_18 : decode cL_addCell 18 = .ok (.i2l, 1) := by decide +kernel
theorem dL_addCell_19 : decode cL_addCell 19 = .ok (.lastore, 1) := by decide +kernel
theorem dL_addCell_20 : decode cL_addCell 20 = .ok (.goto 11, 3) := by decide +kernel
theorem dL_addCell_23 : decode cL_addCell 23 = .ok (.astore 9, 2) := by decide +kernel
theorem dL_addCell_25 : decode cL_addCell 25 = .ok (.iconst 1, 1) := by decide +kernel
theorem dL_addCell_26 : decode cL_addCell 26 = .ok (.ireturn, 1) := by decide +kernel
theorem dL_addCell_27 : decode cL_addCell 27 = .ok (.astore 9, 2) := by decide +kernel
theorem dL_addCell_29 : decode cL_addCell 29 = .ok (.iconst 2, 1) := by decide +kernel
theorem dL_addCell_30 : decode cL_addCell 30 = .ok (.ireturn, 1) := by decide +kernel
theorem dL_addCell_31 : decode cL_addCell 31 = .ok (.iconst 0, 1) := by decide +kernel
theorem dL_addCell_32 : decode cL_addCell 32 = .ok (.ireturn, 1) := by decide +kernel
theorem dL_setConstant_0 : decode cL_setConstant 0 = .ok (.aload_n 3, 1) := by decide +kernel
theorem dL_setConstant_1 : decode cL_setConstant 1 = .ok (.iconst 0, 1) := by decide +kernel
theorem dL_setConstant_2 : decode cL_setConstant 2 = .ok (.aload_n 0, 1) := by decide +kernel
theorem dL_setConstant_3 : decode cL_setConstant 3 = .ok (.iload_n 1, 1) := by decide +kernel
theorem dL_setConstant_4 : decode cL_setConstant 4 = .ok (.iload_n 2, 1) := by decide +kernel
theorem dL_setConstant_5 : decode cL_setConstant 5 = .ok (.invokevirtual 33, 3) := by decide +kernel
theorem dL_setConstant_8 : decode cL_setConstant 8 = .ok (.i2l, 1) := by decide +kernel
theorem dL_setConstant_9 : decode cL_setConstant 9 = .ok (.lastore, 1) := by decide +kernel
theorem dL_setConstant_10 : decode cL_setConstant 10 = .ok (.goto 11, 3) := by decide +kernel
theorem dL_setConstant_13 : decode cL_setConstant 13 = .ok (.astore 4, 2) := by decide +kernel
theorem dL_setConstant_15 : decode cL_setConstant 15 = .ok (.iconst 1, 1) := by decide +kernel
theorem dL_setConstant_16 : decode cL_setConstant 16 = .ok (.ireturn, 1) := by decide +kernel
theorem dL_setConstant_17 : decode cL_setConstant 17 = .ok (.astore 4, 2) := by decide +kernel
theorem dL_setConstant_19 : decode cL_setConstant 19 = .ok (.iconst 2, 1) := by decide +kernel
theorem dL_setConstant_20 : decode cL_setConstant 20 = .ok (.ireturn, 1) := by decide +kernel
theorem dL_setConstant_21 : decode cL_setConstant 21 = .ok (.iconst 0, 1) := by decide +kernel
theorem dL_setConstant_22 : decode cL_setConstant 22 = .ok (.ireturn, 1) := by decide +kernel
theorem dL_value_0 : decode cL_value 0 = .ok (.aload_n 2, 1) := by decide +kernel
theorem dL_value_1 : decode cL_value 1 = .ok (.iconst 0, 1) := by decide +kernel
theorem dL_value_2 : decode cL_value 2 = .ok (.aload_n 0, 1) := by decide +kernel
theorem dL_value_3 : decode cL_value 3 = .ok (.iload_n 1, 1) := by decide +kernel
theorem dL_value_4 : decode cL_value 4 = .ok (.invokevirtual 38, 3) := by decide +kernel
theorem dL_value_7 : decode cL_value 7 = .ok (.i2l, 1) := by decide +kernel
theorem dL_value_8 : decode cL_value 8 = .ok (.lastore, 1) := by decide +kernel
theorem dL_value_9 : decode cL_value 9 = .ok (.goto 9, 3) := by decide +kernel
theorem dL_value_12 : decode cL_value 12 = .ok (.astore_n 3, 1) := by decide +kernel
theorem dL_value_13 : decode cL_value 13 = .ok (.iconst 1, 1) := by decide +kernel
theorem dL_value_14 : decode cL_value 14 = .ok (.ireturn, 1) := by decide +kernel
theorem dL_value_15 : decode cL_value 15 = .ok (.astore_n 3, 1) := by decide +kernel
theorem dL_value_16 : decode cL_value 16 = .ok (.iconst 2, 1) := by decide +kernel
theorem dL_value_17 : decode cL_value 17 = .ok (.ireturn, 1) := by decide +kernel
theorem dL_value_18 : decode cL_value 18 = .ok (.iconst 0, 1) := by decide +kernel
theorem dL_value_19 : decode cL_value 19 = .ok (.ireturn, 1) := by decide +kernel
theorem dL_writer_0 : decode cL_writer 0 = .ok (.aload_n 2, 1) := by decide +kernel
theorem dL_writer_1 : decode cL_writer 1 = .ok (.iconst 0, 1) := by decide +kernel
theorem dL_writer_2 : decode cL_writer 2 = .ok (.aload_n 0, 1) := by decide +kernel
theorem dL_writer_3 : decode cL_writer 3 = .ok (.iload_n 1, 1) := by decide +kernel
theorem dL_writer_4 : decode cL_writer 4 = .ok (.invokevirtual 41, 3) := by decide +kernel
theorem dL_writer_7 : decode cL_writer 7 = .ok (.i2l, 1) := by decide +kernel
theorem dL_writer_8 : decode cL_writer 8 = .ok (.lastore, 1) := by decide +kernel
theorem dL_writer_9 : decode cL_writer 9 = .ok (.goto 9, 3) := by decide +kernel
theorem dL_writer_12 : decode cL_writer 12 = .ok (.astore_n 3, 1) := by decide +kernel
theorem dL_writer_13 : decode cL_writer 13 = .ok (.iconst 1, 1) := by decide +kernel
theorem dL_writer_14 : decode cL_writer 14 = .ok (.ireturn, 1) := by decide +kernel
theorem dL_writer_15 : decode cL_writer 15 = .ok (.astore_n 3, 1) := by decide +kernel
theorem dL_writer_16 : decode cL_writer 16 = .ok (.iconst 2, 1) := by decide +kernel
theorem dL_writer_17 : decode cL_writer 17 = .ok (.ireturn, 1) := by decide +kernel
theorem dL_writer_18 : decode cL_writer 18 = .ok (.iconst 0, 1) := by decide +kernel
theorem dL_writer_19 : decode cL_writer 19 = .ok (.ireturn, 1) := by decide +kernel
theorem dL_run_0 : decode cL_run 0 = .ok (.aload_n 2, 1) := by decide +kernel
theorem dL_run_1 : decode cL_run 1 = .ok (.iconst 0, 1) := by decide +kernel
theorem dL_run_2 : decode cL_run 2 = .ok (.aload_n 0, 1) := by decide +kernel
theorem dL_run_3 : decode cL_run 3 = .ok (.iload_n 1, 1) := by decide +kernel
theorem dL_run_4 : decode cL_run 4 = .ok (.invokevirtual 44, 3) := by decide +kernel
theorem dL_run_7 : decode cL_run 7 = .ok (.i2l, 1) := by decide +kernel
theorem dL_run_8 : decode cL_run 8 = .ok (.lastore, 1) := by decide +kernel
theorem dL_run_9 : decode cL_run 9 = .ok (.goto 6, 3) := by decide +kernel
theorem dL_run_12 : decode cL_run 12 = .ok (.astore_n 3, 1) := by decide +kernel
theorem dL_run_13 : decode cL_run 13 = .ok (.iconst 1, 1) := by decide +kernel
theorem dL_run_14 : decode cL_run 14 = .ok (.ireturn, 1) := by decide +kernel
theorem dL_run_15 : decode cL_run 15 = .ok (.iconst 0, 1) := by decide +kernel
theorem dL_run_16 : decode cL_run 16 = .ok (.ireturn, 1) := by decide +kernel
theorem dL_state_0 : decode cL_state 0 = .ok (.aload_n 2, 1) := by decide +kernel
theorem dL_state_1 : decode cL_state 1 = .ok (.iconst 0, 1) := by decide +kernel
theorem dL_state_2 : decode cL_state 2 = .ok (.aload_n 0, 1) := by decide +kernel
theorem dL_state_3 : decode cL_state 3 = .ok (.iload_n 1, 1) := by decide +kernel
theorem dL_state_4 : decode cL_state 4 = .ok (.invokevirtual 48, 3) := by decide +kernel
theorem dL_state_7 : decode cL_state 7 = .ok (.i2l, 1) := by decide +kernel
theorem dL_state_8 : decode cL_state 8 = .ok (.lastore, 1) := by decide +kernel
theorem dL_state_9 : decode cL_state 9 = .ok (.goto 6, 3) := by decide +kernel
theorem dL_state_12 : decode cL_state 12 = .ok (.astore_n 3, 1) := by decide +kernel
theorem dL_state_13 : decode cL_state 13 = .ok (.iconst 1, 1) := by decide +kernel
theorem dL_state_14 : decode cL_state 14 = .ok (.ireturn, 1) := by decide +kernel
theorem dL_state_15 : decode cL_state 15 = .ok (.iconst 0, 1) := by decide +kernel
theorem dL_state_16 : decode cL_state 16 = .ok (.ireturn, 1) := by decide +kernel
theorem dL_resultAnew_0 : decode cL_resultAnew 0 = .ok (.aload_n 2, 1) := by decide +kernel
theorem dL_resultAnew_1 : decode cL_resultAnew 1 = .ok (.iconst 0, 1) := by decide +kernel
theorem dL_resultAnew_2 : decode cL_resultAnew 2 = .ok (.aload_n 0, 1) := by decide +kernel
theorem dL_resultAnew_3 : decode cL_resultAnew 3 = .ok (.iload_n 1, 1) := by decide +kernel
theorem dL_resultAnew_4 : decode cL_resultAnew 4 = .ok (.invokevirtual 51, 3) := by decide +kernel
theorem dL_resultAnew_7 : decode cL_resultAnew 7 = .ok (.i2l, 1) := by decide +kernel
theorem dL_resultAnew_8 : decode cL_resultAnew 8 = .ok (.lastore, 1) := by decide +kernel
theorem dL_resultAnew_9 : decode cL_resultAnew 9 = .ok (.goto 9, 3) := by decide +kernel
theorem dL_resultAnew_12 : decode cL_resultAnew 12 = .ok (.astore_n 3, 1) := by decide +kernel
theorem dL_resultAnew_13 : decode cL_resultAnew 13 = .ok (.iconst 1, 1) := by decide +kernel
theorem dL_resultAnew_14 : decode cL_resultAnew 14 = .ok (.ireturn, 1) := by decide +kernel
theorem dL_resultAnew_15 : decode cL_resultAnew 15 = .ok (.astore_n 3, 1) := by decide +kernel
theorem dL_resultAnew_16 : decode cL_resultAnew 16 = .ok (.iconst 2, 1) := by decide +kernel
theorem dL_resultAnew_17 : decode cL_resultAnew 17 = .ok (.ireturn, 1) := by decide +kernel
theorem dL_resultAnew_18 : decode cL_resultAnew 18 = .ok (.iconst 0, 1) := by decide +kernel
theorem dL_resultAnew_19 : decode cL_resultAnew 19 = .ok (.ireturn, 1) := by decide +kernel
theorem dL_runs_0 : decode cL_runs 0 = .ok (.aload_n 2, 1) := by decide +kernel
theorem dL_runs_1 : decode cL_runs 1 = .ok (.iconst 0, 1) := by decide +kernel
theorem dL_runs_2 : decode cL_runs 2 = .ok (.aload_n 0, 1) := by decide +kernel
theorem dL_runs_3 : decode cL_runs 3 = .ok (.iload_n 1, 1) := by decide +kernel
theorem dL_runs_4 : decode cL_runs 4 = .ok (.invokevirtual 54, 3) := by decide +kernel
theorem dL_runs_7 : decode cL_runs 7 = .ok (.i2l, 1) := by decide +kernel
theorem dL_runs_8 : decode cL_runs 8 = .ok (.lastore, 1) := by decide +kernel
theorem dL_runs_9 : decode cL_runs 9 = .ok (.goto 6, 3) := by decide +kernel
theorem dL_runs_12 : decode cL_runs 12 = .ok (.astore_n 3, 1) := by decide +kernel
theorem dL_runs_13 : decode cL_runs 13 = .ok (.iconst 1, 1) := by decide +kernel
theorem dL_runs_14 : decode cL_runs 14 = .ok (.ireturn, 1) := by decide +kernel
theorem dL_runs_15 : decode cL_runs 15 = .ok (.iconst 0, 1) := by decide +kernel
theorem dL_runs_16 : decode cL_runs 16 = .ok (.ireturn, 1) := by decide +kernel
theorem dL_found_0 : decode cL_found 0 = .ok (.aload_n 2, 1) := by decide +kernel
theorem dL_found_1 : decode cL_found 1 = .ok (.iconst 0, 1) := by decide +kernel
theorem dL_found_2 : decode cL_found 2 = .ok (.aload_n 0, 1) := by decide +kernel
theorem dL_found_3 : decode cL_found 3 = .ok (.iload_n 1, 1) := by decide +kernel
theorem dL_found_4 : decode cL_found 4 = .ok (.invokevirtual 57, 3) := by decide +kernel
theorem dL_found_7 : decode cL_found 7 = .ok (.i2l, 1) := by decide +kernel
theorem dL_found_8 : decode cL_found 8 = .ok (.lastore, 1) := by decide +kernel
theorem dL_found_9 : decode cL_found 9 = .ok (.goto 6, 3) := by decide +kernel
theorem dL_found_12 : decode cL_found 12 = .ok (.astore_n 3, 1) := by decide +kernel
theorem dL_found_13 : decode cL_found 13 = .ok (.iconst 1, 1) := by decide +kernel
theorem dL_found_14 : decode cL_found 14 = .ok (.ireturn, 1) := by decide +kernel
theorem dL_found_15 : decode cL_found 15 = .ok (.iconst 0, 1) := by decide +kernel
theorem dL_found_16 : decode cL_found 16 = .ok (.ireturn, 1) := by decide +kernel
theorem dL_failure_0 : decode cL_failure 0 = .ok (.aload_n 2, 1) := by decide +kernel
theorem dL_failure_1 : decode cL_failure 1 = .ok (.iconst 0, 1) := by decide +kernel
theorem dL_failure_2 : decode cL_failure 2 = .ok (.aload_n 0, 1) := by decide +kernel
theorem dL_failure_3 : decode cL_failure 3 = .ok (.iload_n 1, 1) := by decide +kernel
theorem dL_failure_4 : decode cL_failure 4 = .ok (.invokevirtual 60, 3) := by decide +kernel
theorem dL_failure_7 : decode cL_failure 7 = .ok (.i2l, 1) := by decide +kernel
theorem dL_failure_8 : decode cL_failure 8 = .ok (.lastore, 1) := by decide +kernel
theorem dL_failure_9 : decode cL_failure 9 = .ok (.goto 9, 3) := by decide +kernel
theorem dL_failure_12 : decode cL_failure 12 = .ok (.astore_n 3, 1) := by decide +kernel
theorem dL_failure_13 : decode cL_failure 13 = .ok (.iconst 1, 1) := by decide +kernel
theorem dL_failure_14 : decode cL_failure 14 = .ok (.ireturn, 1) := by decide +kernel
theorem dL_failure_15 : decode cL_failure 15 = .ok (.astore_n 3, 1) := by decide +kernel
theorem dL_failure_16 : decode cL_failure 16 = .ok (.iconst 2, 1) := by decide +kernel
theorem dL_failure_17 : decode cL_failure 17 = .ok (.ireturn, 1) := by decide +kernel
theorem dL_failure_18 : decode cL_failure 18 = .ok (.iconst 0, 1) := by decide +kernel
theorem dL_failure_19 : decode cL_failure 19 = .ok (.ireturn, 1) := by decide +kernel
theorem dL_root_0 : decode cL_root 0 = .ok (.aload_n 2, 1) := by decide +kernel
theorem dL_root_1 : decode cL_root 1 = .ok (.iconst 0, 1) := by decide +kernel
theorem dL_root_2 : decode cL_root 2 = .ok (.aload_n 0, 1) := by decide +kernel
theorem dL_root_3 : decode cL_root 3 = .ok (.iload_n 1, 1) := by decide +kernel
theorem dL_root_4 : decode cL_root 4 = .ok (.invokevirtual 63, 3) := by decide +kernel
theorem dL_root_7 : decode cL_root 7 = .ok (.i2l, 1) := by decide +kernel
theorem dL_root_8 : decode cL_root 8 = .ok (.lastore, 1) := by decide +kernel
theorem dL_root_9 : decode cL_root 9 = .ok (.goto 9, 3) := by decide +kernel
theorem dL_root_12 : decode cL_root 12 = .ok (.astore_n 3, 1) := by decide +kernel
theorem dL_root_13 : decode cL_root 13 = .ok (.iconst 1, 1) := by decide +kernel
theorem dL_root_14 : decode cL_root 14 = .ok (.ireturn, 1) := by decide +kernel
theorem dL_root_15 : decode cL_root 15 = .ok (.astore_n 3, 1) := by decide +kernel
theorem dL_root_16 : decode cL_root 16 = .ok (.iconst 2, 1) := by decide +kernel
theorem dL_root_17 : decode cL_root 17 = .ok (.ireturn, 1) := by decide +kernel
theorem dL_root_18 : decode cL_root 18 = .ok (.iconst 0, 1) := by decide +kernel
theorem dL_root_19 : decode cL_root 19 = .ok (.ireturn, 1) := by decide +kernel
theorem dL_rootFailure_0 : decode cL_rootFailure 0 = .ok (.aload_n 2, 1) := by decide +kernel
theorem dL_rootFailure_1 : decode cL_rootFailure 1 = .ok (.iconst 0, 1) := by decide +kernel
theorem dL_rootFailure_2 : decode cL_rootFailure 2 = .ok (.aload_n 0, 1) := by decide +kernel
theorem dL_rootFailure_3 : decode cL_rootFailure 3 = .ok (.iload_n 1, 1) := by decide +kernel
theorem dL_rootFailure_4 : decode cL_rootFailure 4 = .ok (.invokevirtual 66, 3) := by decide +kernel
theorem dL_rootFailure_7 : decode cL_rootFailure 7 = .ok (.i2l, 1) := by decide +kernel
theorem dL_rootFailure_8 : decode cL_rootFailure 8 = .ok (.lastore, 1) := by decide +kernel
theorem dL_rootFailure_9 : decode cL_rootFailure 9 = .ok (.goto 9, 3) := by decide +kernel
theorem dL_rootFailure_12 : decode cL_rootFailure 12 = .ok (.astore_n 3, 1) := by decide +kernel
theorem dL_rootFailure_13 : decode cL_rootFailure 13 = .ok (.iconst 1, 1) := by decide +kernel
theorem dL_rootFailure_14 : decode cL_rootFailure 14 = .ok (.ireturn, 1) := by decide +kernel
theorem dL_rootFailure_15 : decode cL_rootFailure 15 = .ok (.astore_n 3, 1) := by decide +kernel
theorem dL_rootFailure_16 : decode cL_rootFailure 16 = .ok (.iconst 2, 1) := by decide +kernel
theorem dL_rootFailure_17 : decode cL_rootFailure 17 = .ok (.ireturn, 1) := by decide +kernel
theorem dL_rootFailure_18 : decode cL_rootFailure 18 = .ok (.iconst 0, 1) := by decide +kernel
theorem dL_rootFailure_19 : decode cL_rootFailure 19 = .ok (.ireturn, 1) := by decide +kernel
theorem dL_causes_0 : decode cL_causes 0 = .ok (.aload_n 2, 1) := by decide +kernel
theorem dL_causes_1 : decode cL_causes 1 = .ok (.iconst 0, 1) := by decide +kernel
theorem dL_causes_2 : decode cL_causes 2 = .ok (.aload_n 0, 1) := by decide +kernel
theorem dL_causes_3 : decode cL_causes 3 = .ok (.iload_n 1, 1) := by decide +kernel
theorem dL_causes_4 : decode cL_causes 4 = .ok (.invokevirtual 69, 3) := by decide +kernel
theorem dL_causes_7 : decode cL_causes 7 = .ok (.i2l, 1) := by decide +kernel
theorem dL_causes_8 : decode cL_causes 8 = .ok (.lastore, 1) := by decide +kernel
theorem dL_causes_9 : decode cL_causes 9 = .ok (.goto 9, 3) := by decide +kernel
theorem dL_causes_12 : decode cL_causes 12 = .ok (.astore_n 3, 1) := by decide +kernel
theorem dL_causes_13 : decode cL_causes 13 = .ok (.iconst 1, 1) := by decide +kernel
theorem dL_causes_14 : decode cL_causes 14 = .ok (.ireturn, 1) := by decide +kernel
theorem dL_causes_15 : decode cL_causes 15 = .ok (.astore_n 3, 1) := by decide +kernel
theorem dL_causes_16 : decode cL_causes 16 = .ok (.iconst 2, 1) := by decide +kernel
theorem dL_causes_17 : decode cL_causes 17 = .ok (.ireturn, 1) := by decide +kernel
theorem dL_causes_18 : decode cL_causes 18 = .ok (.iconst 0, 1) := by decide +kernel
theorem dL_causes_19 : decode cL_causes 19 = .ok (.ireturn, 1) := by decide +kernel
theorem dL_depends_0 : decode cL_depends 0 = .ok (.aload_n 3, 1) := by decide +kernel
theorem dL_depends_1 : decode cL_depends 1 = .ok (.iconst 0, 1) := by decide +kernel
theorem dL_depends_2 : decode cL_depends 2 = .ok (.aload_n 0, 1) := by decide +kernel
theorem dL_depends_3 : decode cL_depends 3 = .ok (.iload_n 1, 1) := by decide +kernel
theorem dL_depends_4 : decode cL_depends 4 = .ok (.iload_n 2, 1) := by decide +kernel
theorem dL_depends_5 : decode cL_depends 5 = .ok (.invokevirtual 72, 3) := by decide +kernel
theorem dL_depends_8 : decode cL_depends 8 = .ok (.ifCond .eq 7, 3) := by decide +kernel
theorem dL_depends_11 : decode cL_depends 11 = .ok (.lconst 1, 1) := by decide +kernel
theorem dL_depends_12 : decode cL_depends 12 = .ok (.goto 4, 3) := by decide +kernel
theorem dL_depends_15 : decode cL_depends 15 = .ok (.lconst 0, 1) := by decide +kernel
theorem dL_depends_16 : decode cL_depends 16 = .ok (.lastore, 1) := by decide +kernel
theorem dL_depends_17 : decode cL_depends 17 = .ok (.goto 11, 3) := by decide +kernel
theorem dL_depends_20 : decode cL_depends 20 = .ok (.astore 4, 2) := by decide +kernel
theorem dL_depends_22 : decode cL_depends 22 = .ok (.iconst 1, 1) := by decide +kernel
theorem dL_depends_23 : decode cL_depends 23 = .ok (.ireturn, 1) := by decide +kernel
theorem dL_depends_24 : decode cL_depends 24 = .ok (.astore 4, 2) := by decide +kernel
theorem dL_depends_26 : decode cL_depends 26 = .ok (.iconst 2, 1) := by decide +kernel
theorem dL_depends_27 : decode cL_depends 27 = .ok (.ireturn, 1) := by decide +kernel
theorem dL_depends_28 : decode cL_depends 28 = .ok (.iconst 0, 1) := by decide +kernel
theorem dL_depends_29 : decode cL_depends 29 = .ok (.ireturn, 1) := by decide +kernel
theorem dL_owners_0 : decode cL_owners 0 = .ok (.aload_n 2, 1) := by decide +kernel
theorem dL_owners_1 : decode cL_owners 1 = .ok (.iconst 0, 1) := by decide +kernel
theorem dL_owners_2 : decode cL_owners 2 = .ok (.aload_n 0, 1) := by decide +kernel
theorem dL_owners_3 : decode cL_owners 3 = .ok (.iload_n 1, 1) := by decide +kernel
theorem dL_owners_4 : decode cL_owners 4 = .ok (.invokevirtual 76, 3) := by decide +kernel
theorem dL_owners_7 : decode cL_owners 7 = .ok (.i2l, 1) := by decide +kernel
theorem dL_owners_8 : decode cL_owners 8 = .ok (.lastore, 1) := by decide +kernel
theorem dL_owners_9 : decode cL_owners 9 = .ok (.goto 6, 3) := by decide +kernel
theorem dL_owners_12 : decode cL_owners 12 = .ok (.astore_n 3, 1) := by decide +kernel
theorem dL_owners_13 : decode cL_owners 13 = .ok (.iconst 1, 1) := by decide +kernel
theorem dL_owners_14 : decode cL_owners 14 = .ok (.ireturn, 1) := by decide +kernel
theorem dL_owners_15 : decode cL_owners 15 = .ok (.iconst 0, 1) := by decide +kernel
theorem dL_owners_16 : decode cL_owners 16 = .ok (.ireturn, 1) := by decide +kernel
theorem dL_dependents_0 : decode cL_dependents 0 = .ok (.aload_n 2, 1) := by decide +kernel
theorem dL_dependents_1 : decode cL_dependents 1 = .ok (.iconst 0, 1) := by decide +kernel
theorem dL_dependents_2 : decode cL_dependents 2 = .ok (.aload_n 0, 1) := by decide +kernel
theorem dL_dependents_3 : decode cL_dependents 3 = .ok (.iload_n 1, 1) := by decide +kernel
theorem dL_dependents_4 : decode cL_dependents 4 = .ok (.invokevirtual 79, 3) := by decide +kernel
theorem dL_dependents_7 : decode cL_dependents 7 = .ok (.i2l, 1) := by decide +kernel
theorem dL_dependents_8 : decode cL_dependents 8 = .ok (.lastore, 1) := by decide +kernel
theorem dL_dependents_9 : decode cL_dependents 9 = .ok (.goto 6, 3) := by decide +kernel
theorem dL_dependents_12 : decode cL_dependents 12 = .ok (.astore_n 3, 1) := by decide +kernel
theorem dL_dependents_13 : decode cL_dependents 13 = .ok (.iconst 1, 1) := by decide +kernel
theorem dL_dependents_14 : decode cL_dependents 14 = .ok (.ireturn, 1) := by decide +kernel
theorem dL_dependents_15 : decode cL_dependents 15 = .ok (.iconst 0, 1) := by decide +kernel
theorem dL_dependents_16 : decode cL_dependents 16 = .ok (.ireturn, 1) := by decide +kernel
theorem dL_addKernel_0 : decode cL_addKernel 0 = .ok (.aload_n 2, 1) := by decide +kernel
theorem dL_addKernel_1 : decode cL_addKernel 1 = .ok (.iconst 0, 1) := by decide +kernel
theorem dL_addKernel_2 : decode cL_addKernel 2 = .ok (.aload_n 0, 1) := by decide +kernel
theorem dL_addKernel_3 : decode cL_addKernel 3 = .ok (.iload_n 1, 1) := by decide +kernel
theorem dL_addKernel_4 : decode cL_addKernel 4 = .ok (.invokevirtual 82, 3) := by decide +kernel
theorem dL_addKernel_7 : decode cL_addKernel 7 = .ok (.i2l, 1) := by decide +kernel
theorem dL_addKernel_8 : decode cL_addKernel 8 = .ok (.lastore, 1) := by decide +kernel
theorem dL_addKernel_9 : decode cL_addKernel 9 = .ok (.goto 9, 3) := by decide +kernel
theorem dL_addKernel_12 : decode cL_addKernel 12 = .ok (.astore_n 3, 1) := by decide +kernel
theorem dL_addKernel_13 : decode cL_addKernel 13 = .ok (.iconst 1, 1) := by decide +kernel
theorem dL_addKernel_14 : decode cL_addKernel 14 = .ok (.ireturn, 1) := by decide +kernel
theorem dL_addKernel_15 : decode cL_addKernel 15 = .ok (.astore_n 3, 1) := by decide +kernel
theorem dL_addKernel_16 : decode cL_addKernel 16 = .ok (.iconst 2, 1) := by decide +kernel
theorem dL_addKernel_17 : decode cL_addKernel 17 = .ok (.ireturn, 1) := by decide +kernel
theorem dL_addKernel_18 : decode cL_addKernel 18 = .ok (.iconst 0, 1) := by decide +kernel
theorem dL_addKernel_19 : decode cL_addKernel 19 = .ok (.ireturn, 1) := by decide +kernel
theorem dL_free_0 : decode cL_free 0 = .ok (.aload_n 2, 1) := by decide +kernel
theorem dL_free_1 : decode cL_free 1 = .ok (.iconst 0, 1) := by decide +kernel
theorem dL_free_2 : decode cL_free 2 = .ok (.aload_n 0, 1) := by decide +kernel
theorem dL_free_3 : decode cL_free 3 = .ok (.iload_n 1, 1) := by decide +kernel
theorem dL_free_4 : decode cL_free 4 = .ok (.invokevirtual 85, 3) := by decide +kernel
theorem dL_free_7 : decode cL_free 7 = .ok (.i2l, 1) := by decide +kernel
theorem dL_free_8 : decode cL_free 8 = .ok (.lastore, 1) := by decide +kernel
theorem dL_free_9 : decode cL_free 9 = .ok (.goto 6, 3) := by decide +kernel
theorem dL_free_12 : decode cL_free 12 = .ok (.astore_n 3, 1) := by decide +kernel
theorem dL_free_13 : decode cL_free 13 = .ok (.iconst 1, 1) := by decide +kernel
theorem dL_free_14 : decode cL_free 14 = .ok (.ireturn, 1) := by decide +kernel
theorem dL_free_15 : decode cL_free 15 = .ok (.iconst 0, 1) := by decide +kernel
theorem dL_free_16 : decode cL_free 16 = .ok (.ireturn, 1) := by decide +kernel
theorem dL_schedule_0 : decode cL_schedule 0 = .ok (.aload_n 3, 1) := by decide +kernel
theorem dL_schedule_1 : decode cL_schedule 1 = .ok (.iconst 0, 1) := by decide +kernel
theorem dL_schedule_2 : decode cL_schedule 2 = .ok (.aload_n 0, 1) := by decide +kernel
theorem dL_schedule_3 : decode cL_schedule 3 = .ok (.iload_n 1, 1) := by decide +kernel
theorem dL_schedule_4 : decode cL_schedule 4 = .ok (.iload_n 2, 1) := by decide +kernel
theorem dL_schedule_5 : decode cL_schedule 5 = .ok (.invokevirtual 88, 3) := by decide +kernel
theorem dL_schedule_8 : decode cL_schedule 8 = .ok (.i2l, 1) := by decide +kernel
theorem dL_schedule_9 : decode cL_schedule 9 = .ok (.lastore, 1) := by decide +kernel
theorem dL_schedule_10 : decode cL_schedule 10 = .ok (.goto 11, 3) := by decide +kernel
theorem dL_schedule_13 : decode cL_schedule 13 = .ok (.astore 4, 2) := by decide +kernel
theorem dL_schedule_15 : decode cL_schedule 15 = .ok (.iconst 1, 1) := by decide +kernel
theorem dL_schedule_16 : decode cL_schedule 16 = .ok (.ireturn, 1) := by decide +kernel
theorem dL_schedule_17 : decode cL_schedule 17 = .ok (.astore 4, 2) := by decide +kernel
theorem dL_schedule_19 : decode cL_schedule 19 = .ok (.iconst 2, 1) := by decide +kernel
theorem dL_schedule_20 : decode cL_schedule 20 = .ok (.ireturn, 1) := by decide +kernel
theorem dL_schedule_21 : decode cL_schedule 21 = .ok (.iconst 0, 1) := by decide +kernel
theorem dL_schedule_22 : decode cL_schedule 22 = .ok (.ireturn, 1) := by decide +kernel
theorem dL_pass_0 : decode cL_pass 0 = .ok (.aload_n 2, 1) := by decide +kernel
theorem dL_pass_1 : decode cL_pass 1 = .ok (.iconst 0, 1) := by decide +kernel
theorem dL_pass_2 : decode cL_pass 2 = .ok (.aload_n 0, 1) := by decide +kernel
theorem dL_pass_3 : decode cL_pass 3 = .ok (.iload_n 1, 1) := by decide +kernel
theorem dL_pass_4 : decode cL_pass 4 = .ok (.invokevirtual 91, 3) := by decide +kernel
theorem dL_pass_7 : decode cL_pass 7 = .ok (.i2l, 1) := by decide +kernel
theorem dL_pass_8 : decode cL_pass 8 = .ok (.lastore, 1) := by decide +kernel
theorem dL_pass_9 : decode cL_pass 9 = .ok (.goto 9, 3) := by decide +kernel
theorem dL_pass_12 : decode cL_pass 12 = .ok (.astore_n 3, 1) := by decide +kernel
theorem dL_pass_13 : decode cL_pass 13 = .ok (.iconst 1, 1) := by decide +kernel
theorem dL_pass_14 : decode cL_pass 14 = .ok (.ireturn, 1) := by decide +kernel
theorem dL_pass_15 : decode cL_pass 15 = .ok (.astore_n 3, 1) := by decide +kernel
theorem dL_pass_16 : decode cL_pass 16 = .ok (.iconst 2, 1) := by decide +kernel
theorem dL_pass_17 : decode cL_pass 17 = .ok (.ireturn, 1) := by decide +kernel
theorem dL_pass_18 : decode cL_pass 18 = .ok (.iconst 0, 1) := by decide +kernel
theorem dL_pass_19 : decode cL_pass 19 = .ok (.ireturn, 1) := by decide +kernel
theorem dL_load_0 : decode cL_load 0 = .ok (.aload_n 1, 1) := by decide +kernel
theorem dL_load_1 : decode cL_load 1 = .ok (.iconst 0, 1) := by decide +kernel
theorem dL_load_2 : decode cL_load 2 = .ok (.aload_n 0, 1) := by decide +kernel
theorem dL_load_3 : decode cL_load 3 = .ok (.invokevirtual 94, 3) := by decide +kernel
theorem dL_load_6 : decode cL_load 6 = .ok (.f2d, 1) := by decide +kernel
theorem dL_load_7 : decode cL_load 7 = .ok (.dastore, 1) := by decide +kernel
theorem dL_load_8 : decode cL_load 8 = .ok (.goto 6, 3) := by decide +kernel
theorem dL_load_11 : decode cL_load 11 = .ok (.astore_n 2, 1) := by decide +kernel
theorem dL_load_12 : decode cL_load 12 = .ok (.iconst 1, 1) := by decide +kernel
theorem dL_load_13 : decode cL_load 13 = .ok (.ireturn, 1) := by decide +kernel
theorem dL_load_14 : decode cL_load 14 = .ok (.iconst 0, 1) := by decide +kernel
theorem dL_load_15 : decode cL_load 15 = .ok (.ireturn, 1) := by decide +kernel
theorem dL_meanValue_0 : decode cL_meanValue 0 = .ok (.aload_n 1, 1) := by decide +kernel
theorem dL_meanValue_1 : decode cL_meanValue 1 = .ok (.iconst 0, 1) := by decide +kernel
theorem dL_meanValue_2 : decode cL_meanValue 2 = .ok (.aload_n 0, 1) := by decide +kernel
theorem dL_meanValue_3 : decode cL_meanValue 3 = .ok (.invokevirtual 100, 3) := by decide +kernel
theorem dL_meanValue_6 : decode cL_meanValue 6 = .ok (.dastore, 1) := by decide +kernel
theorem dL_meanValue_7 : decode cL_meanValue 7 = .ok (.goto 6, 3) := by decide +kernel
theorem dL_meanValue_10 : decode cL_meanValue 10 = .ok (.astore_n 2, 1) := by decide +kernel
theorem dL_meanValue_11 : decode cL_meanValue 11 = .ok (.iconst 1, 1) := by decide +kernel
theorem dL_meanValue_12 : decode cL_meanValue 12 = .ok (.ireturn, 1) := by decide +kernel
