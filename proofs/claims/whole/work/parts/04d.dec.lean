theorem dX5_anew_34 : decode cX5_anew 34 = .ok (.istore_n 3, 1) := by decide +kernel
theorem dX5_anew_35 : decode cX5_anew 35 = .ok (.iload_n 2, 1) := by decide +kernel
theorem dX5_anew_36 : decode cX5_anew 36 = .ok (.ifCond .lt 7, 3) := by decide +kernel
theorem dX5_anew_39 : decode cX5_anew 39 = .ok (.iload_n 3, 1) := by decide +kernel
theorem dX5_anew_40 : decode cX5_anew 40 = .ok (.ifCond .ge 7, 3) := by decide +kernel
theorem dX5_anew_43 : decode cX5_anew 43 = .ok (.iconst (-1), 1) := by decide +kernel
theorem dX5_anew_44 : decode cX5_anew 44 = .ok (.goto 10, 3) := by decide +kernel
theorem dX5_anew_47 : decode cX5_anew 47 = .ok (.aload_n 0, 1) := by decide +kernel
theorem dX5_anew_48 : decode cX5_anew 48 = .ok (.iload_n 1, 1) := by decide +kernel
theorem dX5_anew_49 : decode cX5_anew 49 = .ok (.iload_n 2, 1) := by decide +kernel
theorem dX5_anew_50 : decode cX5_anew 50 = .ok (.iload_n 3, 1) := by decide +kernel
theorem dX5_anew_51 : decode cX5_anew 51 = .ok (.invokevirtual 154, 3) := by decide +kernel
theorem dX5_anew_54 : decode cX5_anew 54 = .ok (.ireturn, 1) := by decide +kernel
theorem dX5_anewOf_0 : decode cX5_anewOf 0 = .ok (.aload_n 0, 1) := by decide +kernel
theorem dX5_anewOf_1 : decode cX5_anewOf 1 = .ok (.getfield 7, 3) := by decide +kernel
theorem dX5_anewOf_4 : decode cX5_anewOf 4 = .ok (.iload_n 1, 1) := by decide +kernel
theorem dX5_anewOf_5 : decode cX5_anewOf 5 = .ok (.baload, 1) := by decide +kernel
theorem dX5_anewOf_6 : decode cX5_anewOf 6 = .ok (.ifCond .eq 12, 3) := by decide +kernel
theorem dX5_anewOf_9 : decode cX5_anewOf 9 = .ok (.aload_n 0, 1) := by decide +kernel
theorem dX5_anewOf_10 : decode cX5_anewOf 10 = .ok (.getfield 17, 3) := by decide +kernel
theorem dX5_anewOf_13 : decode cX5_anewOf 13 = .ok (.iload_n 1, 1) := by decide +kernel
theorem dX5_anewOf_14 : decode cX5_anewOf 14 = .ok (.iaload, 1) := by decide +kernel
theorem dX5_anewOf_15 : decode cX5_anewOf 15 = .ok (.goto 13, 3) := by decide +kernel
theorem dX5_anewOf_18 : decode cX5_anewOf 18 = .ok (.aload_n 0, 1) := by decide +kernel
theorem dX5_anewOf_19 : decode cX5_anewOf 19 = .ok (.aload_n 0, 1) := by decide +kernel
theorem dX5_anewOf_20 : decode cX5_anewOf 20 = .ok (.getfield 20, 3) := by decide +kernel
theorem dX5_anewOf_23 : decode cX5_anewOf 23 = .ok (.iload_n 1, 1) := by decide +kernel
theorem dX5_anewOf_24 : decode cX5_anewOf 24 = .ok (.iaload, 1) := by decide +kernel
theorem dX5_anewOf_25 : decode cX5_anewOf 25 = .ok (.invokevirtual 158, 3) := by decide +kernel
theorem dX5_anewOf_28 : decode cX5_anewOf 28 = .ok (.ireturn, 1) := by decide +kernel
theorem dX5_fallsShort_0 : decode cX5_fallsShort 0 = .ok (.aload_n 0, 1) := by decide +kernel
theorem dX5_fallsShort_1 : decode cX5_fallsShort 1 = .ok (.getfield 17, 3) := by decide +kernel
theorem dX5_fallsShort_4 : decode cX5_fallsShort 4 = .ok (.aload_n 0, 1) := by decide +kernel
theorem dX5_fallsShort_5 : decode cX5_fallsShort 5 = .ok (.getfield 27, 3) := by decide +kernel
theorem dX5_fallsShort_8 : decode cX5_fallsShort 8 = .ok (.iload_n 1, 1) := by decide +kernel
theorem dX5_fallsShort_9 : decode cX5_fallsShort 9 = .ok (.iaload, 1) := by decide +kernel
theorem dX5_fallsShort_10 : decode cX5_fallsShort 10 = .ok (.iaload, 1) := by decide +kernel
theorem dX5_fallsShort_11 : decode cX5_fallsShort 11 = .ok (.ifCond .ge 12, 3) := by decide +kernel
theorem dX5_fallsShort_14 : decode cX5_fallsShort 14 = .ok (.aload_n 0, 1) := by decide +kernel
theorem dX5_fallsShort_15 : decode cX5_fallsShort 15 = .ok (.getfield 27, 3) := by decide +kernel
theorem dX5_fallsShort_18 : decode cX5_fallsShort 18 = .ok (.iload_n 1, 1) := by decide +kernel
theorem dX5_fallsShort_19 : decode cX5_fallsShort 19 = .ok (.iaload, 1) := by decide +kernel
theorem dX5_fallsShort_20 : decode cX5_fallsShort 20 = .ok (.goto 9, 3) := by decide +kernel
theorem dX5_fallsShort_23 : decode cX5_fallsShort 23 = .ok (.aload_n 0, 1) := by decide +kernel
theorem dX5_fallsShort_24 : decode cX5_fallsShort 24 = .ok (.getfield 30, 3) := by decide +kernel
theorem dX5_fallsShort_27 : decode cX5_fallsShort 27 = .ok (.iload_n 1, 1) := by decide +kernel
theorem dX5_fallsShort_28 : decode cX5_fallsShort 28 = .ok (.iaload, 1) := by decide +kernel
theorem dX5_fallsShort_29 : decode cX5_fallsShort 29 = .ok (.istore_n 2, 1) := by decide +kernel
theorem dX5_fallsShort_30 : decode cX5_fallsShort 30 = .ok (.aload_n 0, 1) := by decide +kernel
theorem dX5_fallsShort_31 : decode cX5_fallsShort 31 = .ok (.getfield 20, 3) := by decide +kernel
theorem dX5_fallsShort_34 : decode cX5_fallsShort 34 = .ok (.iload_n 2, 1) := by decide +kernel
theorem dX5_fallsShort_35 : decode cX5_fallsShort 35 = .ok (.iaload, 1) := by decide +kernel
theorem dX5_fallsShort_36 : decode cX5_fallsShort 36 = .ok (.istore_n 3, 1) := by decide +kernel
theorem dX5_fallsShort_37 : decode cX5_fallsShort 37 = .ok (.iload_n 3, 1) := by decide +kernel
theorem dX5_fallsShort_38 : decode cX5_fallsShort 38 = .ok (.ifCond .lt 18, 3) := by decide +kernel
theorem dX5_fallsShort_41 : decode cX5_fallsShort 41 = .ok (.aload_n 0, 1) := by decide +kernel
theorem dX5_fallsShort_42 : decode cX5_fallsShort 42 = .ok (.getfield 48, 3) := by decide +kernel
theorem dX5_fallsShort_45 : decode cX5_fallsShort 45 = .ok (.iload_n 3, 1) := by decide +kernel
theorem dX5_fallsShort_46 : decode cX5_fallsShort 46 = .ok (.caload, 1) := by decide +kernel
theorem dX5_fallsShort_47 : decode cX5_fallsShort 47 = .ok (.bipush 120, 2) := by decide +kernel
theorem dX5_fallsShort_49 : decode cX5_fallsShort 49 = .ok (.if_icmp .ne 7, 3) := by decide +kernel
theorem dX5_fallsShort_52 : decode cX5_fallsShort 52 = .ok (.iconst 1, 1) := by decide +kernel
theorem dX5_fallsShort_53 : decode cX5_fallsShort 53 = .ok (.goto 4, 3) := by decide +kernel
theorem dX5_fallsShort_56 : decode cX5_fallsShort 56 = .ok (.iconst 0, 1) := by decide +kernel
theorem dX5_fallsShort_57 : decode cX5_fallsShort 57 = .ok (.istore 4, 2) := by decide +kernel
theorem dX5_fallsShort_59 : decode cX5_fallsShort 59 = .ok (.aload_n 0, 1) := by decide +kernel
theorem dX5_fallsShort_60 : decode cX5_fallsShort 60 = .ok (.getfield 66, 3) := by decide +kernel
theorem dX5_fallsShort_63 : decode cX5_fallsShort 63 = .ok (.iload_n 1, 1) := by decide +kernel
theorem dX5_fallsShort_64 : decode cX5_fallsShort 64 = .ok (.iload 4, 2) := by decide +kernel
theorem dX5_fallsShort_66 : decode cX5_fallsShort 66 = .ok (.ifCond .eq 12, 3) := by decide +kernel
theorem dX5_fallsShort_69 : decode cX5_fallsShort 69 = .ok (.aload_n 0, 1) := by decide +kernel
theorem dX5_fallsShort_70 : decode cX5_fallsShort 70 = .ok (.getfield 66, 3) := by decide +kernel
theorem dX5_fallsShort_73 : decode cX5_fallsShort 73 = .ok (.iload_n 3, 1) := by decide +kernel
theorem dX5_fallsShort_74 : decode cX5_fallsShort 74 = .ok (.iaload, 1) := by decide +kernel
theorem dX5_fallsShort_75 : decode cX5_fallsShort 75 = .ok (.goto 4, 3) := by decide +kernel
theorem dX5_fallsShort_78 : decode cX5_fallsShort 78 = .ok (.iload_n 1, 1) := by decide +kernel
theorem dX5_fallsShort_79 : decode cX5_fallsShort 79 = .ok (.iastore, 1) := by decide +kernel
theorem dX5_fallsShort_80 : decode cX5_fallsShort 80 = .ok (.aload_n 0, 1) := by decide +kernel
theorem dX5_fallsShort_81 : decode cX5_fallsShort 81 = .ok (.getfield 69, 3) := by decide +kernel
theorem dX5_fallsShort_84 : decode cX5_fallsShort 84 = .ok (.iload_n 1, 1) := by decide +kernel
theorem dX5_fallsShort_85 : decode cX5_fallsShort 85 = .ok (.iload 4, 2) := by decide +kernel
theorem dX5_fallsShort_87 : decode cX5_fallsShort 87 = .ok (.ifCond .eq 12, 3) := by decide +kernel
theorem dX5_fallsShort_90 : decode cX5_fallsShort 90 = .ok (.aload_n 0, 1) := by decide +kernel
theorem dX5_fallsShort_91 : decode cX5_fallsShort 91 = .ok (.getfield 69, 3) := by decide +kernel
theorem dX5_fallsShort_94 : decode cX5_fallsShort 94 = .ok (.iload_n 3, 1) := by decide +kernel
theorem dX5_fallsShort_95 : decode cX5_fallsShort 95 = .ok (.caload, 1) := by decide +kernel
theorem dX5_fallsShort_96 : decode cX5_fallsShort 96 = .ok (.goto 5, 3) := by decide +kernel
theorem dX5_fallsShort_99 : decode cX5_fallsShort 99 = .ok (.bipush 109, 2) := by decide +kernel
theorem dX5_fallsShort_101 : decode cX5_fallsShort 101 = .ok (.castore, 1) := by decide +kernel
theorem dX5_fallsShort_102 : decode cX5_fallsShort 102 = .ok (.aload_n 0, 1) := by decide +kernel
theorem dX5_fallsShort_103 : decode cX5_fallsShort 103 = .ok (.getfield 75, 3) := by decide +kernel
theorem dX5_fallsShort_106 : decode cX5_fallsShort 106 = .ok (.iload_n 1, 1) := by decide +kernel
theorem dX5_fallsShort_107 : decode cX5_fallsShort 107 = .ok (.iload 4, 2) := by decide +kernel
theorem dX5_fallsShort_109 : decode cX5_fallsShort 109 = .ok (.ifCond .eq 14, 3) := by decide +kernel
theorem dX5_fallsShort_112 : decode cX5_fallsShort 112 = .ok (.aload_n 0, 1) := by decide +kernel
theorem dX5_fallsShort_113 : decode cX5_fallsShort 113 = .ok (.getfield 75, 3) := by decide +kernel
theorem dX5_fallsShort_116 : decode cX5_fallsShort 116 = .ok (.iload_n 3, 1) := by decide +kernel
theorem dX5_fallsShort_117 : decode cX5_fallsShort 117 = .ok (.iaload, 1) := by decide +kernel
theorem dX5_fallsShort_118 : decode cX5_fallsShort 118 = .ok (.iconst 1, 1) := by decide +kernel
theorem dX5_fallsShort_119 : decode cX5_fallsShort 119 = .ok (.iadd, 1) := by decide +kernel
theorem dX5_fallsShort_120 : decode cX5_fallsShort 120 = .ok (.goto 4, 3) := by decide +kernel
theorem dX5_fallsShort_123 : decode cX5_fallsShort 123 = .ok (.iconst 0, 1) := by decide +kernel
theorem dX5_fallsShort_124 : decode cX5_fallsShort 124 = .ok (.iastore, 1) := by decide +kernel
theorem dX5_fallsShort_125 : decode cX5_fallsShort 125 = .ok (.return_, 1) := by decide +kernel
theorem dX5_failed_0 : decode cX5_failed 0 = .ok (.iload_n 2, 1) := by decide +kernel
theorem dX5_failed_1 : decode cX5_failed 1 = .ok (.bipush 109, 2) := by decide +kernel
theorem dX5_failed_3 : decode cX5_failed 3 = .ok (.if_icmp .ne 11, 3) := by decide +kernel
theorem dX5_failed_6 : decode cX5_failed 6 = .ok (.aload_n 0, 1) := by decide +kernel
theorem dX5_failed_7 : decode cX5_failed 7 = .ok (.iload_n 1, 1) := by decide +kernel
theorem dX5_failed_8 : decode cX5_failed 8 = .ok (.invokevirtual 161, 3) := by decide +kernel
theorem dX5_failed_11 : decode cX5_failed 11 = .ok (.goto 24, 3) := by decide +kernel
theorem dX5_failed_14 : decode cX5_failed 14 = .ok (.aload_n 0, 1) := by decide +kernel
theorem dX5_failed_15 : decode cX5_failed 15 = .ok (.getfield 66, 3) := by decide +kernel
theorem dX5_failed_18 : decode cX5_failed 18 = .ok (.iload_n 1, 1) := by decide +kernel
theorem dX5_failed_19 : decode cX5_failed 19 = .ok (.iload_n 1, 1) := by decide +kernel
theorem dX5_failed_20 : decode cX5_failed 20 = .ok (.iastore, 1) := by decide +kernel
theorem dX5_failed_21 : decode cX5_failed 21 = .ok (.aload_n 0, 1) := by decide +kernel
theorem dX5_failed_22 : decode cX5_failed 22 = .ok (.getfield 69, 3) := by decide +kernel
theorem dX5_failed_25 : decode cX5_failed 25 = .ok (.iload_n 1, 1) := by decide +kernel
theorem dX5_failed_26 : decode cX5_failed 26 = .ok (.iload_n 2, 1) := by decide +kernel
theorem dX5_failed_27 : decode cX5_failed 27 = .ok (.castore, 1) := by decide +kernel
theorem dX5_failed_28 : decode cX5_failed 28 = .ok (.aload_n 0, 1) := by decide +kernel
theorem dX5_failed_29 : decode cX5_failed 29 = .ok (.getfield 75, 3) := by decide +kernel
theorem dX5_failed_32 : decode cX5_failed 32 = .ok (.iload_n 1, 1) := by decide +kernel
theorem dX5_failed_33 : decode cX5_failed 33 = .ok (.iconst 0, 1) := by decide +kernel
theorem dX5_failed_34 : decode cX5_failed 34 = .ok (.iastore, 1) := by decide +kernel
theorem dX5_failed_35 : decode cX5_failed 35 = .ok (.aload_n 0, 1) := by decide +kernel
theorem dX5_failed_36 : decode cX5_failed 36 = .ok (.getfield 48, 3) := by decide +kernel
theorem dX5_failed_39 : decode cX5_failed 39 = .ok (.iload_n 1, 1) := by decide +kernel
theorem dX5_failed_40 : decode cX5_failed 40 = .ok (.bipush 120, 2) := by decide +kernel
theorem dX5_failed_42 : decode cX5_failed 42 = .ok (.castore, 1) := by decide +kernel
theorem dX5_failed_43 : decode cX5_failed 43 = .ok (.aload_n 0, 1) := by decide +kernel
theorem dX5_failed_44 : decode cX5_failed 44 = .ok (.getfield 72, 3) := by decide +kernel
theorem dX5_failed_47 : decode cX5_failed 47 = .ok (.iload_n 1, 1) := by decide +kernel
theorem dX5_failed_48 : decode cX5_failed 48 = .ok (.iload_n 2, 1) := by decide +kernel
theorem dX5_failed_49 : decode cX5_failed 49 = .ok (.castore, 1) := by decide +kernel
theorem dX5_failed_50 : decode cX5_failed 50 = .ok (.aload_n 0, 1) := by decide +kernel
theorem dX5_failed_51 : decode cX5_failed 51 = .ok (.getfield 17, 3) := by decide +kernel
theorem dX5_failed_54 : decode cX5_failed 54 = .ok (.aload_n 0, 1) := by decide +kernel
theorem dX5_failed_55 : decode cX5_failed 55 = .ok (.getfield 36, 3) := by decide +kernel
theorem dX5_failed_58 : decode cX5_failed 58 = .ok (.iload_n 1, 1) := by decide +kernel
theorem dX5_failed_59 : decode cX5_failed 59 = .ok (.iaload, 1) := by decide +kernel
theorem dX5_failed_60 : decode cX5_failed 60 = .ok (.iconst (-1), 1) := by decide +kernel
theorem dX5_failed_61 : decode cX5_failed 61 = .ok (.iastore, 1) := by decide +kernel
theorem dX5_failed_62 : decode cX5_failed 62 = .ok (.iload_n 2, 1) := by decide +kernel
theorem dX5_failed_63 : decode cX5_failed 63 = .ok (.ireturn, 1) := by decide +kernel
theorem dX5_has_0 : decode cX5_has 0 = .ok (.aload_n 0, 1) := by decide +kernel
theorem dX5_has_1 : decode cX5_has 1 = .ok (.getfield 48, 3) := by decide +kernel
theorem dX5_has_4 : decode cX5_has 4 = .ok (.iload_n 1, 1) := by decide +kernel
theorem dX5_has_5 : decode cX5_has 5 = .ok (.bipush 102, 2) := by decide +kernel
theorem dX5_has_7 : decode cX5_has 7 = .ok (.castore, 1) := by decide +kernel
theorem dX5_has_8 : decode cX5_has 8 = .ok (.aload_n 0, 1) := by decide +kernel
theorem dX5_has_9 : decode cX5_has 9 = .ok (.getfield 51, 3) := by decide +kernel
theorem dX5_has_12 : decode cX5_has 12 = .ok (.iload_n 1, 1) := by decide +kernel
theorem dX5_has_13 : decode cX5_has 13 = .ok (.aload_n 0, 1) := by decide +kernel
theorem dX5_has_14 : decode cX5_has 14 = .ok (.getfield 17, 3) := by decide +kernel
theorem dX5_has_17 : decode cX5_has 17 = .ok (.aload_n 0, 1) := by decide +kernel
theorem dX5_has_18 : decode cX5_has 18 = .ok (.getfield 27, 3) := by decide +kernel
theorem dX5_has_21 : decode cX5_has 21 = .ok (.iload_n 1, 1) := by decide +kernel
theorem dX5_has_22 : decode cX5_has 22 = .ok (.iaload, 1) := by decide +kernel
theorem dX5_has_23 : decode cX5_has 23 = .ok (.iaload, 1) := by decide +kernel
theorem dX5_has_24 : decode cX5_has 24 = .ok (.iastore, 1) := by decide +kernel
theorem dX5_has_25 : decode cX5_has 25 = .ok (.aload_n 0, 1) := by decide +kernel
theorem dX5_has_26 : decode cX5_has 26 = .ok (.getfield 54, 3) := by decide +kernel
theorem dX5_has_29 : decode cX5_has 29 = .ok (.iload_n 1, 1) := by decide +kernel
theorem dX5_has_30 : decode cX5_has 30 = .ok (.aload_n 0, 1) := by decide +kernel
theorem dX5_has_31 : decode cX5_has 31 = .ok (.iload_n 1, 1) := by decide +kernel
theorem dX5_has_32 : decode cX5_has 32 = .ok (.invokevirtual 165, 3) := by decide +kernel
theorem dX5_has_35 : decode cX5_has 35 = .ok (.iastore, 1) := by decide +kernel
theorem dX5_has_36 : decode cX5_has 36 = .ok (.aload_n 0, 1) := by decide +kernel
theorem dX5_has_37 : decode cX5_has 37 = .ok (.getfield 57, 3) := by decide +kernel
theorem dX5_has_40 : decode cX5_has 40 = .ok (.iload_n 1, 1) := by decide +kernel
theorem dX5_has_41 : decode cX5_has 41 = .ok (.aload_n 0, 1) := by decide +kernel
theorem dX5_has_42 : decode cX5_has 42 = .ok (.getfield 33, 3) := by decide +kernel
theorem dX5_has_45 : decode cX5_has 45 = .ok (.iload_n 1, 1) := by decide +kernel
theorem dX5_has_46 : decode cX5_has 46 = .ok (.iaload, 1) := by decide +kernel
theorem dX5_has_47 : decode cX5_has 47 = .ok (.iastore, 1) := by decide +kernel
theorem dX5_has_48 : decode cX5_has 48 = .ok (.aload_n 0, 1) := by decide +kernel
theorem dX5_has_49 : decode cX5_has 49 = .ok (.getfield 17, 3) := by decide +kernel
theorem dX5_has_52 : decode cX5_has 52 = .ok (.aload_n 0, 1) := by decide +kernel
theorem dX5_has_53 : decode cX5_has 53 = .ok (.getfield 36, 3) := by decide +kernel
theorem dX5_has_56 : decode cX5_has 56 = .ok (.iload_n 1, 1) := by decide +kernel
theorem dX5_has_57 : decode cX5_has 57 = .ok (.iaload, 1) := by decide +kernel
theorem dX5_has_58 : decode cX5_has 58 = .ok (.iload_n 2, 1) := by decide +kernel
theorem dX5_has_59 : decode cX5_has 59 = .ok (.iastore, 1) := by decide +kernel
theorem dX5_has_60 : decode cX5_has 60 = .ok (.return_, 1) := by decide +kernel
theorem dX5_keptAt_0 : decode cX5_keptAt 0 = .ok (.iconst 4, 1) := by decide +kernel
theorem dX5_keptAt_1 : decode cX5_keptAt 1 = .ok (.iload_n 1, 1) := by decide +kernel
theorem dX5_keptAt_2 : decode cX5_keptAt 2 = .ok (.imul, 1) := by decide +kernel
theorem dX5_keptAt_3 : decode cX5_keptAt 3 = .ok (.istore_n 2, 1) := by decide +kernel
theorem dX5_keptAt_4 : decode cX5_keptAt 4 = .ok (.iload_n 2, 1) := by decide +kernel
theorem dX5_keptAt_5 : decode cX5_keptAt 5 = .ok (.iconst 4, 1) := by decide +kernel
theorem dX5_keptAt_6 : decode cX5_keptAt 6 = .ok (.iload_n 1, 1) := by decide +kernel
theorem dX5_keptAt_7 : decode cX5_keptAt 7 = .ok (.imul, 1) := by decide +kernel
theorem dX5_keptAt_8 : decode cX5_keptAt 8 = .ok (.iconst 4, 1) := by decide +kernel
theorem dX5_keptAt_9 : decode cX5_keptAt 9 = .ok (.iadd, 1) := by decide +kernel
theorem dX5_keptAt_10 : decode cX5_keptAt 10 = .ok (.if_icmp .ge 74, 3) := by decide +kernel
theorem dX5_keptAt_13 : decode cX5_keptAt 13 = .ok (.iload_n 2, 1) := by decide +kernel
theorem dX5_keptAt_14 : decode cX5_keptAt 14 = .ok (.iconst 4, 1) := by decide +kernel
theorem dX5_keptAt_15 : decode cX5_keptAt 15 = .ok (.iload_n 1, 1) := by decide +kernel
theorem dX5_keptAt_16 : decode cX5_keptAt 16 = .ok (.imul, 1) := by decide +kernel
theorem dX5_keptAt_17 : decode cX5_keptAt 17 = .ok (.aload_n 0, 1) := by decide +kernel
theorem dX5_keptAt_18 : decode cX5_keptAt 18 = .ok (.getfield 60, 3) := by decide +kernel
theorem dX5_keptAt_21 : decode cX5_keptAt 21 = .ok (.iload_n 1, 1) := by decide +kernel
theorem dX5_keptAt_22 : decode cX5_keptAt 22 = .ok (.iaload, 1) := by decide +kernel
theorem dX5_keptAt_23 : decode cX5_keptAt 23 = .ok (.iadd, 1) := by decide +kernel
theorem dX5_keptAt_24 : decode cX5_keptAt 24 = .ok (.if_icmp .ge 60, 3) := by decide +kernel
theorem dX5_keptAt_27 : decode cX5_keptAt 27 = .ok (.aload_n 0, 1) := by decide +kernel
theorem dX5_keptAt_28 : decode cX5_keptAt 28 = .ok (.getfield 78, 3) := by decide +kernel
theorem dX5_keptAt_31 : decode cX5_keptAt 31 = .ok (.iload_n 2, 1) := by decide +kernel
theorem dX5_keptAt_32 : decode cX5_keptAt 32 = .ok (.iaload, 1) := by decide +kernel
theorem dX5_keptAt_33 : decode cX5_keptAt 33 = .ok (.aload_n 0, 1) := by decide +kernel
theorem dX5_keptAt_34 : decode cX5_keptAt 34 = .ok (.getfield 17, 3) := by decide +kernel
theorem dX5_keptAt_37 : decode cX5_keptAt 37 = .ok (.aload_n 0, 1) := by decide +kernel
theorem dX5_keptAt_38 : decode cX5_keptAt 38 = .ok (.getfield 27, 3) := by decide +kernel
theorem dX5_keptAt_41 : decode cX5_keptAt 41 = .ok (.iload_n 1, 1) := by decide +kernel
theorem dX5_keptAt_42 : decode cX5_keptAt 42 = .ok (.iaload, 1) := by decide +kernel
theorem dX5_keptAt_43 : decode cX5_keptAt 43 = .ok (.iaload, 1) := by decide +kernel
theorem dX5_keptAt_44 : decode cX5_keptAt 44 = .ok (.if_icmp .ne 34, 3) := by decide +kernel
theorem dX5_keptAt_47 : decode cX5_keptAt 47 = .ok (.aload_n 0, 1) := by decide +kernel
theorem dX5_keptAt_48 : decode cX5_keptAt 48 = .ok (.getfield 81, 3) := by decide +kernel
theorem dX5_keptAt_51 : decode cX5_keptAt 51 = .ok (.iload_n 2, 1) := by decide +kernel
theorem dX5_keptAt_52 : decode cX5_keptAt 52 = .ok (.iaload, 1) := by decide +kernel
theorem dX5_keptAt_53 : decode cX5_keptAt 53 = .ok (.aload_n 0, 1) := by decide +kernel
theorem dX5_keptAt_54 : decode cX5_keptAt 54 = .ok (.iload_n 1, 1) := by decide +kernel
theorem dX5_keptAt_55 : decode cX5_keptAt 55 = .ok (.invokevirtual 165, 3) := by decide +kernel
theorem dX5_keptAt_58 : decode cX5_keptAt 58 = .ok (.if_icmp .ne 20, 3) := by decide +kernel
theorem dX5_keptAt_61 : decode cX5_keptAt 61 = .ok (.aload_n 0, 1) := by decide +kernel
theorem dX5_keptAt_62 : decode cX5_keptAt 62 = .ok (.getfield 84, 3) := by decide +kernel
theorem dX5_keptAt_65 : decode cX5_keptAt 65 = .ok (.iload_n 2, 1) := by decide +kernel
theorem dX5_keptAt_66 : decode cX5_keptAt 66 = .ok (.iaload, 1) := by decide +kernel
theorem dX5_keptAt_67 : decode cX5_keptAt 67 = .ok (.aload_n 0, 1) := by decide +kernel
theorem dX5_keptAt_68 : decode cX5_keptAt 68 = .ok (.getfield 33, 3) := by decide +kernel
theorem dX5_keptAt_71 : decode cX5_keptAt 71 = .ok (.iload_n 1, 1) := by decide +kernel
theorem dX5_keptAt_72 : decode cX5_keptAt 72 = .ok (.iaload, 1) := by decide +kernel
theorem dX5_keptAt_73 : decode cX5_keptAt 73 = .ok (.if_icmp .ne 5, 3) := by decide +kernel
theorem dX5_keptAt_76 : decode cX5_keptAt 76 = .ok (.iload_n 2, 1) := by decide +kernel
theorem dX5_keptAt_77 : decode cX5_keptAt 77 = .ok (.ireturn, 1) := by decide +kernel
theorem dX5_keptAt_78 : decode cX5_keptAt 78 = .ok (.iinc 2 1, 3) := by decide +kernel
theorem dX5_keptAt_81 : decode cX5_keptAt 81 = .ok (.goto (-77), 3) := by decide +kernel
theorem dX5_keptAt_84 : decode cX5_keptAt 84 = .ok (.iconst (-1), 1) := by decide +kernel
theorem dX5_keptAt_85 : decode cX5_keptAt 85 = .ok (.ireturn, 1) := by decide +kernel
theorem dX5_freeOf_0 : decode cX5_freeOf 0 = .ok (.aload_n 0, 1) := by decide +kernel
theorem dX5_freeOf_1 : decode cX5_freeOf 1 = .ok (.getfield 90, 3) := by decide +kernel
theorem dX5_freeOf_4 : decode cX5_freeOf 4 = .ok (.iload_n 1, 1) := by decide +kernel
theorem dX5_freeOf_5 : decode cX5_freeOf 5 = .ok (.iaload, 1) := by decide +kernel
theorem dX5_freeOf_6 : decode cX5_freeOf 6 = .ok (.istore_n 2, 1) := by decide +kernel
theorem dX5_freeOf_7 : decode cX5_freeOf 7 = .ok (.iconst 0, 1) := by decide +kernel
theorem dX5_freeOf_8 : decode cX5_freeOf 8 = .ok (.istore_n 3, 1) := by decide +kernel
theorem dX5_freeOf_9 : decode cX5_freeOf 9 = .ok (.iload_n 3, 1) := by decide +kernel
theorem dX5_freeOf_10 : decode cX5_freeOf 10 = .ok (.aload_n 0, 1) := by decide +kernel
theorem dX5_freeOf_11 : decode cX5_freeOf 11 = .ok (.getfield 168, 3) := by decide +kernel
theorem dX5_freeOf_14 : decode cX5_freeOf 14 = .ok (.if_icmp .ge 32, 3) := by decide +kernel
theorem dX5_freeOf_17 : decode cX5_freeOf 17 = .ok (.iload_n 2, 1) := by decide +kernel
theorem dX5_freeOf_18 : decode cX5_freeOf 18 = .ok (.aload_n 0, 1) := by decide +kernel
theorem dX5_freeOf_19 : decode cX5_freeOf 19 = .ok (.getfield 93, 3) := by decide +kernel
theorem dX5_freeOf_22 : decode cX5_freeOf 22 = .ok (.iload_n 3, 1) := by decide +kernel
theorem dX5_freeOf_23 : decode cX5_freeOf 23 = .ok (.iaload, 1) := by decide +kernel
theorem dX5_freeOf_24 : decode cX5_freeOf 24 = .ok (.iload_n 1, 1) := by decide +kernel
theorem dX5_freeOf_25 : decode cX5_freeOf 25 = .ok (.if_icmp .ne 12, 3) := by decide +kernel
theorem dX5_freeOf_28 : decode cX5_freeOf 28 = .ok (.aload_n 0, 1) := by decide +kernel
theorem dX5_freeOf_29 : decode cX5_freeOf 29 = .ok (.getfield 96, 3) := by decide +kernel
theorem dX5_freeOf_32 : decode cX5_freeOf 32 = .ok (.iload_n 3, 1) := by decide +kernel
theorem dX5_freeOf_33 : decode cX5_freeOf 33 = .ok (.iaload, 1) := by decide +kernel
theorem dX5_freeOf_34 : decode cX5_freeOf 34 = .ok (.goto 4, 3) := by decide +kernel
theorem dX5_freeOf_37 : decode cX5_freeOf 37 = .ok (.iconst 0, 1) := by decide +kernel
theorem dX5_freeOf_38 : decode cX5_freeOf 38 = .ok (.isub, 1) := by decide +kernel
theorem dX5_freeOf_39 : decode cX5_freeOf 39 = .ok (.istore_n 2, 1) := by decide +kernel
theorem dX5_freeOf_40 : decode cX5_freeOf 40 = .ok (.iinc 3 1, 3) := by decide +kernel
theorem dX5_freeOf_43 : decode cX5_freeOf 43 = .ok (.goto (-34), 3) := by decide +kernel
theorem dX5_freeOf_46 : decode cX5_freeOf 46 = .ok (.iload_n 2, 1) := by decide +kernel
theorem dX5_freeOf_47 : decode cX5_freeOf 47 = .ok (.ireturn, 1) := by decide +kernel
theorem dX5_kernelFor_0 : decode cX5_kernelFor 0 = .ok (.iconst (-1), 1) := by decide +kernel
theorem dX5_kernelFor_1 : decode cX5_kernelFor 1 = .ok (.istore_n 2, 1) := by decide +kernel
theorem dX5_kernelFor_2 : decode cX5_kernelFor 2 = .ok (.iconst 0, 1) := by decide +kernel
theorem dX5_kernelFor_3 : decode cX5_kernelFor 3 = .ok (.istore_n 3, 1) := by decide +kernel
theorem dX5_kernelFor_4 : decode cX5_kernelFor 4 = .ok (.iload_n 3, 1) := by decide +kernel
theorem dX5_kernelFor_5 : decode cX5_kernelFor 5 = .ok (.aload_n 0, 1) := by decide +kernel
theorem dX5_kernelFor_6 : decode cX5_kernelFor 6 = .ok (.getfield 171, 3) := by decide +kernel
theorem dX5_kernelFor_9 : decode cX5_kernelFor 9 = .ok (.if_icmp .ge 37, 3) := by decide +kernel
theorem dX5_kernelFor_12 : decode cX5_kernelFor 12 = .ok (.aload_n 0, 1) := by decide +kernel
theorem dX5_kernelFor_13 : decode cX5_kernelFor 13 = .ok (.iload_n 3, 1) := by decide +kernel
theorem dX5_kernelFor_14 : decode cX5_kernelFor 14 = .ok (.invokevirtual 174, 3) := by decide +kernel
theorem dX5_kernelFor_17 : decode cX5_kernelFor 17 = .ok (.iload_n 1, 1) := by decide +kernel
theorem dX5_kernelFor_18 : decode cX5_kernelFor 18 = .ok (.if_icmp .lt 22, 3) := by decide +kernel
theorem dX5_kernelFor_21 : decode cX5_kernelFor 21 = .ok (.iload_n 2, 1) := by decide +kernel
theorem dX5_kernelFor_22 : decode cX5_kernelFor 22 = .ok (.ifCond .lt 16, 3) := by decide +kernel
theorem dX5_kernelFor_25 : decode cX5_kernelFor 25 = .ok (.aload_n 0, 1) := by decide +kernel
theorem dX5_kernelFor_26 : decode cX5_kernelFor 26 = .ok (.iload_n 3, 1) := by decide +kernel
theorem dX5_kernelFor_27 : decode cX5_kernelFor 27 = .ok (.invokevirtual 174, 3) := by decide +kernel
theorem dX5_kernelFor_30 : decode cX5_kernelFor 30 = .ok (.aload_n 0, 1) := by decide +kernel
theorem dX5_kernelFor_31 : decode cX5_kernelFor 31 = .ok (.iload_n 2, 1) := by decide +kernel
theorem dX5_kernelFor_32 : decode cX5_kernelFor 32 = .ok (.invokevirtual 174, 3) := by decide +kernel
theorem dX5_kernelFor_35 : decode cX5_kernelFor 35 = .ok (.if_icmp .ge 5, 3) := by decide +kernel
theorem dX5_kernelFor_38 : decode cX5_kernelFor 38 = .ok (.iload_n 3, 1) := by decide +kernel
theorem dX5_kernelFor_39 : decode cX5_kernelFor 39 = .ok (.istore_n 2, 1) := by decide +kernel
theorem dX5_kernelFor_40 : decode cX5_kernelFor 40 = .ok (.iinc 3 1, 3) := by decide +kernel
theorem dX5_kernelFor_43 : decode cX5_kernelFor 43 = .ok (.goto (-39), 3) := by decide +kernel
theorem dX5_kernelFor_46 : decode cX5_kernelFor 46 = .ok (.iload_n 2, 1) := by decide +kernel
theorem dX5_kernelFor_47 : decode cX5_kernelFor 47 = .ok (.ireturn, 1) := by decide +kernel
theorem dX5_takes_0 : decode cX5_takes 0 = .ok (.aload_n 0, 1) := by decide +kernel
theorem dX5_takes_1 : decode cX5_takes 1 = .ok (.getfield 93, 3) := by decide +kernel
theorem dX5_takes_4 : decode cX5_takes 4 = .ok (.aload_n 0, 1) := by decide +kernel
theorem dX5_takes_5 : decode cX5_takes 5 = .ok (.getfield 168, 3) := by decide +kernel
theorem dX5_takes_8 : decode cX5_takes 8 = .ok (.iload_n 2, 1) := by decide +kernel
theorem dX5_takes_9 : decode cX5_takes 9 = .ok (.iastore, 1) := by decide +kernel
theorem dX5_takes_10 : decode cX5_takes 10 = .ok (.aload_n 0, 1) := by decide +kernel
theorem dX5_takes_11 : decode cX5_takes 11 = .ok (.getfield 96, 3) := by decide +kernel
theorem dX5_takes_14 : decode cX5_takes 14 = .ok (.aload_n 0, 1) := by decide +kernel
theorem dX5_takes_15 : decode cX5_takes 15 = .ok (.getfield 168, 3) := by decide +kernel
theorem dX5_takes_18 : decode cX5_takes 18 = .ok (.aload_n 0, 1) := by decide +kernel
theorem dX5_takes_19 : decode cX5_takes 19 = .ok (.getfield 39, 3) := by decide +kernel
theorem dX5_takes_22 : decode cX5_takes 22 = .ok (.iload_n 1, 1) := by decide +kernel
theorem dX5_takes_23 : decode cX5_takes 23 = .ok (.iaload, 1) := by decide +kernel
theorem dX5_takes_24 : decode cX5_takes 24 = .ok (.iastore, 1) := by decide +kernel
theorem dX5_takes_25 : decode cX5_takes 25 = .ok (.aload_n 0, 1) := by decide +kernel
theorem dX5_takes_26 : decode cX5_takes 26 = .ok (.getfield 99, 3) := by decide +kernel
theorem dX5_takes_29 : decode cX5_takes 29 = .ok (.aload_n 0, 1) := by decide +kernel
theorem dX5_takes_30 : decode cX5_takes 30 = .ok (.getfield 168, 3) := by decide +kernel
theorem dX5_takes_33 : decode cX5_takes 33 = .ok (.aload_n 0, 1) := by decide +kernel
theorem dX5_takes_34 : decode cX5_takes 34 = .ok (.getfield 177, 3) := by decide +kernel
theorem dX5_takes_37 : decode cX5_takes 37 = .ok (.aload_n 0, 1) := by decide +kernel
theorem dX5_takes_38 : decode cX5_takes 38 = .ok (.getfield 42, 3) := by decide +kernel
theorem dX5_takes_41 : decode cX5_takes 41 = .ok (.iload_n 1, 1) := by decide +kernel
theorem dX5_takes_42 : decode cX5_takes 42 = .ok (.iaload, 1) := by decide +kernel
theorem dX5_takes_43 : decode cX5_takes 43 = .ok (.iadd, 1) := by decide +kernel
theorem dX5_takes_44 : decode cX5_takes 44 = .ok (.iastore, 1) := by decide +kernel
theorem dX5_takes_45 : decode cX5_takes 45 = .ok (.aload_n 0, 1) := by decide +kernel
theorem dX5_takes_46 : decode cX5_takes 46 = .ok (.dup, 1) := by decide +kernel
theorem dX5_takes_47 : decode cX5_takes 47 = .ok (.getfield 168, 3) := by decide +kernel
theorem dX5_takes_50 : decode cX5_takes 50 = .ok (.iconst 1, 1) := by decide +kernel
theorem dX5_takes_51 : decode cX5_takes 51 = .ok (.iadd, 1) := by decide +kernel
theorem dX5_takes_52 : decode cX5_takes 52 = .ok (.putfield 168, 3) := by decide +kernel
theorem dX5_takes_55 : decode cX5_takes 55 = .ok (.aload_n 0, 1) := by decide +kernel
theorem dX5_takes_56 : decode cX5_takes 56 = .ok (.dup, 1) := by decide +kernel
theorem dX5_takes_57 : decode cX5_takes 57 = .ok (.getfield 180, 3) := by decide +kernel
theorem dX5_takes_60 : decode cX5_takes 60 = .ok (.aload_n 0, 1) := by decide +kernel
theorem dX5_takes_61 : decode cX5_takes 61 = .ok (.getfield 39, 3) := by decide +kernel
theorem dX5_takes_64 : decode cX5_takes 64 = .ok (.iload_n 1, 1) := by decide +kernel
theorem dX5_takes_65 : decode cX5_takes 65 = .ok (.iaload, 1) := by decide +kernel
theorem dX5_takes_66 : decode cX5_takes 66 = .ok (.aload_n 0, 1) := by decide +kernel
theorem dX5_takes_67 : decode cX5_takes 67 = .ok (.getfield 42, 3) := by decide +kernel
theorem dX5_takes_70 : decode cX5_takes 70 = .ok (.iload_n 1, 1) := by decide +kernel
theorem dX5_takes_71 : decode cX5_takes 71 = .ok (.iaload, 1) := by decide +kernel
theorem dX5_takes_72 : decode cX5_takes 72 = .ok (.imul, 1) := by decide +kernel
theorem dX5_takes_73 : decode cX5_takes 73 = .ok (.i2l, 1) := by decide +kernel
theorem dX5_takes_74 : decode cX5_takes 74 = .ok (.ladd, 1) := by decide +kernel
theorem dX5_takes_75 : decode cX5_takes 75 = .ok (.putfield 180, 3) := by decide +kernel
theorem dX5_takes_78 : decode cX5_takes 78 = .ok (.return_, 1) := by decide +kernel
theorem dX5_keeps_0 : decode cX5_keeps 0 = .ok (.iconst 4, 1) := by decide +kernel
theorem dX5_keeps_1 : decode cX5_keeps 1 = .ok (.iload_n 1, 1) := by decide +kernel
theorem dX5_keeps_2 : decode cX5_keeps 2 = .ok (.imul, 1) := by decide +kernel
theorem dX5_keeps_3 : decode cX5_keeps 3 = .ok (.aload_n 0, 1) := by decide +kernel
theorem dX5_keeps_4 : decode cX5_keeps 4 = .ok (.getfield 60, 3) := by decide +kernel
theorem dX5_keeps_7 : decode cX5_keeps 7 = .ok (.iload_n 1, 1) := by decide +kernel
theorem dX5_keeps_8 : decode cX5_keeps 8 = .ok (.iaload, 1) := by decide +kernel
theorem dX5_keeps_9 : decode cX5_keeps 9 = .ok (.iconst 4, 1) := by decide +kernel
theorem dX5_keeps_10 : decode cX5_keeps 10 = .ok (.irem, 1) := by decide +kernel
theorem dX5_keeps_11 : decode cX5_keeps 11 = .ok (.iadd, 1) := by decide +kernel
theorem dX5_keeps_12 : decode cX5_keeps 12 = .ok (.istore_n 3, 1) := by decide +kernel
theorem dX5_keeps_13 : decode cX5_keeps 13 = .ok (.aload_n 0, 1) := by decide +kernel
theorem dX5_keeps_14 : decode cX5_keeps 14 = .ok (.getfield 78, 3) := by decide +kernel
theorem dX5_keeps_17 : decode cX5_keeps 17 = .ok (.iload_n 3, 1) := by decide +kernel
theorem dX5_keeps_18 : decode cX5_keeps 18 = .ok (.aload_n 0, 1) := by decide +kernel
theorem dX5_keeps_19 : decode cX5_keeps 19 = .ok (.getfield 17, 3) := by decide +kernel
theorem dX5_keeps_22 : decode cX5_keeps 22 = .ok (.aload_n 0, 1) := by decide +kernel
theorem dX5_keeps_23 : decode cX5_keeps 23 = .ok (.getfield 27, 3) := by decide +kernel
theorem dX5_keeps_26 : decode cX5_keeps 26 = .ok (.iload_n 1, 1) := by decide +kernel
theorem dX5_keeps_27 : decode cX5_keeps 27 = .ok (.iaload, 1) := by decide +kernel
theorem dX5_keeps_28 : decode cX5_keeps 28 = .ok (.iaload, 1) := by decide +kernel
theorem dX5_keeps_29 : decode cX5_keeps 29 = .ok (.iastore, 1) := by decide +kernel
theorem dX5_keeps_30 : decode cX5_keeps 30 = .ok (.aload_n 0, 1) := by decide +kernel
theorem dX5_keeps_31 : decode cX5_keeps 31 = .ok (.getfield 81, 3) := by decide +kernel
theorem dX5_keeps_34 : decode cX5_keeps 34 = .ok (.iload_n 3, 1) := by decide +kernel
theorem dX5_keeps_35 : decode cX5_keeps 35 = .ok (.aload_n 0, 1) := by decide +kernel
theorem dX5_keeps_36 : decode cX5_keeps 36 = .ok (.iload_n 1, 1) := by decide +kernel
theorem dX5_keeps_37 : decode cX5_keeps 37 = .ok (.invokevirtual 165, 3) := by decide +kernel
theorem dX5_keeps_40 : decode cX5_keeps 40 = .ok (.iastore, 1) := by decide +kernel
theorem dX5_keeps_41 : decode cX5_keeps 41 = .ok (.aload_n 0, 1) := by decide +kernel
theorem dX5_keeps_42 : decode cX5_keeps 42 = .ok (.getfield 84, 3) := by decide +kernel
theorem dX5_keeps_45 : decode cX5_keeps 45 = .ok (.iload_n 3, 1) := by decide +kernel
theorem dX5_keeps_46 : decode cX5_keeps 46 = .ok (.aload_n 0, 1) := by decide +kernel
theorem dX5_keeps_47 : decode cX5_keeps 47 = .ok (.getfield 33, 3) := by decide +kernel
theorem dX5_keeps_50 : decode cX5_keeps 50 = .ok (.iload_n 1, 1) := by decide +kernel
theorem dX5_keeps_51 : decode cX5_keeps 51 = .ok (.iaload, 1) := by decide +kernel
theorem dX5_keeps_52 : decode cX5_keeps 52 = .ok (.iastore, 1) := by decide +kernel
theorem dX5_keeps_53 : decode cX5_keeps 53 = .ok (.aload_n 0, 1) := by decide +kernel
theorem dX5_keeps_54 : decode cX5_keeps 54 = .ok (.getfield 87, 3) := by decide +kernel
theorem dX5_keeps_57 : decode cX5_keeps 57 = .ok (.iload_n 3, 1) := by decide +kernel
theorem dX5_keeps_58 : decode cX5_keeps 58 = .ok (.iload_n 2, 1) := by decide +kernel
theorem dX5_keeps_59 : decode cX5_keeps 59 = .ok (.iastore, 1) := by decide +kernel
theorem dX5_keeps_60 : decode cX5_keeps 60 = .ok (.aload_n 0, 1) := by decide +kernel
theorem dX5_keeps_61 : decode cX5_keeps 61 = .ok (.getfield 60, 3) := by decide +kernel
theorem dX5_keeps_64 : decode cX5_keeps 64 = .ok (.iload_n 1, 1) := by decide +kernel
theorem dX5_keeps_65 : decode cX5_keeps 65 = .ok (.dup2, 1) := by decide +kernel
theorem dX5_keeps_66 : decode cX5_keeps 66 = .ok (.iaload, 1) := by decide +kernel
theorem dX5_keeps_67 : decode cX5_keeps 67 = .ok (.iconst 1, 1) := by decide +kernel
theorem dX5_keeps_68 : decode cX5_keeps 68 = .ok (.iadd, 1) := by decide +kernel
theorem dX5_keeps_69 : decode cX5_keeps 69 = .ok (.iastore, 1) := by decide +kernel
theorem dX5_keeps_70 : decode cX5_keeps 70 = .ok (.return_, 1) := by decide +kernel
theorem dX5_does_0 : decode cX5_does 0 = .ok (.aload_n 0, 1) := by decide +kernel
theorem dX5_does_1 : decode cX5_does 1 = .ok (.iload_n 1, 1) := by decide +kernel
theorem dX5_does_2 : decode cX5_does 2 = .ok (.invokevirtual 184, 3) := by decide +kernel
theorem dX5_does_5 : decode cX5_does 5 = .ok (.ifCond .eq 11, 3) := by decide +kernel
theorem dX5_does_8 : decode cX5_does 8 = .ok (.aload_n 0, 1) := by decide +kernel
theorem dX5_does_9 : decode cX5_does 9 = .ok (.iload_n 1, 1) := by decide +kernel
theorem dX5_does_10 : decode cX5_does 10 = .ok (.bipush 109, 2) := by decide +kernel
theorem dX5_does_12 : decode cX5_does 12 = .ok (.invokevirtual 187, 3) := by decide +kernel
theorem dX5_does_15 : decode cX5_does 15 = .ok (.ireturn, 1) := by decide +kernel
theorem dX5_does_16 : decode cX5_does 16 = .ok (.aload_n 0, 1) := by decide +kernel
theorem dX5_does_17 : decode cX5_does 17 = .ok (.iload_n 1, 1) := by decide +kernel
theorem dX5_does_18 : decode cX5_does 18 = .ok (.aload_n 0, 1) := by decide +kernel
theorem dX5_does_19 : decode cX5_does 19 = .ok (.getfield 17, 3) := by decide +kernel
theorem dX5_does_22 : decode cX5_does 22 = .ok (.aload_n 0, 1) := by decide +kernel
theorem dX5_does_23 : decode cX5_does 23 = .ok (.getfield 27, 3) := by decide +kernel
theorem dX5_does_26 : decode cX5_does 26 = .ok (.iload_n 1, 1) := by decide +kernel
theorem dX5_does_27 : decode cX5_does 27 = .ok (.iaload, 1) := by decide +kernel
theorem dX5_does_28 : decode cX5_does 28 = .ok (.iaload, 1) := by decide +kernel
theorem dX5_does_29 : decode cX5_does 29 = .ok (.aload_n 0, 1) := by decide +kernel
theorem dX5_does_30 : decode cX5_does 30 = .ok (.iload_n 1, 1) := by decide +kernel
theorem dX5_does_31 : decode cX5_does 31 = .ok (.invokevirtual 165, 3) := by decide +kernel
theorem dX5_does_34 : decode cX5_does 34 = .ok (.invokevirtual 154, 3) := by decide +kernel
theorem dX5_does_37 : decode cX5_does 37 = .ok (.istore_n 2, 1) := by decide +kernel
theorem dX5_does_38 : decode cX5_does 38 = .ok (.iload_n 2, 1) := by decide +kernel
theorem dX5_does_39 : decode cX5_does 39 = .ok (.bipush (-2), 2) := by decide +kernel
theorem dX5_does_41 : decode cX5_does 41 = .ok (.if_icmp .ne 11, 3) := by decide +kernel
theorem dX5_does_44 : decode cX5_does 44 = .ok (.aload_n 0, 1) := by decide +kernel
theorem dX5_does_45 : decode cX5_does 45 = .ok (.iload_n 1, 1) := by decide +kernel
theorem dX5_does_46 : decode cX5_does 46 = .ok (.bipush 122, 2) := by decide +kernel
theorem dX5_does_48 : decode cX5_does 48 = .ok (.invokevirtual 187, 3) := by decide +kernel
theorem dX5_does_51 : decode cX5_does 51 = .ok (.ireturn, 1) := by decide +kernel
theorem dX5_does_52 : decode cX5_does 52 = .ok (.aload_n 0, 1) := by decide +kernel
theorem dX5_does_53 : decode cX5_does 53 = .ok (.iload_n 1, 1) := by decide +kernel
theorem dX5_does_54 : decode cX5_does 54 = .ok (.invokevirtual 191, 3) := by decide +kernel
theorem dX5_does_57 : decode cX5_does 57 = .ok (.ifCond .lt 31, 3) := by decide +kernel
theorem dX5_does_60 : decode cX5_does 60 = .ok (.aload_n 0, 1) := by decide +kernel
theorem dX5_does_61 : decode cX5_does 61 = .ok (.getfield 63, 3) := by decide +kernel
theorem dX5_does_64 : decode cX5_does 64 = .ok (.iload_n 1, 1) := by decide +kernel
theorem dX5_does_65 : decode cX5_does 65 = .ok (.dup2, 1) := by decide +kernel
theorem dX5_does_66 : decode cX5_does 66 = .ok (.iaload, 1) := by decide +kernel
theorem dX5_does_67 : decode cX5_does 67 = .ok (.iconst 1, 1) := by decide +kernel
theorem dX5_does_68 : decode cX5_does 68 = .ok (.iadd, 1) := by decide +kernel
theorem dX5_does_69 : decode cX5_does 69 = .ok (.iastore, 1) := by decide +kernel
theorem dX5_does_70 : decode cX5_does 70 = .ok (.aload_n 0, 1) := by decide +kernel
theorem dX5_does_71 : decode cX5_does 71 = .ok (.iload_n 1, 1) := by decide +kernel
theorem dX5_does_72 : decode cX5_does 72 = .ok (.aload_n 0, 1) := by decide +kernel
theorem dX5_does_73 : decode cX5_does 73 = .ok (.getfield 87, 3) := by decide +kernel
theorem dX5_does_76 : decode cX5_does 76 = .ok (.aload_n 0, 1) := by decide +kernel
theorem dX5_does_77 : decode cX5_does 77 = .ok (.iload_n 1, 1) := by decide +kernel
theorem dX5_does_78 : decode cX5_does 78 = .ok (.invokevirtual 191, 3) := by decide +kernel
theorem dX5_does_81 : decode cX5_does 81 = .ok (.iaload, 1) := by decide +kernel
theorem dX5_does_82 : decode cX5_does 82 = .ok (.invokevirtual 194, 3) := by decide +kernel
theorem dX5_does_85 : decode cX5_does 85 = .ok (.bipush 104, 2) := by decide +kernel
theorem dX5_does_87 : decode cX5_does 87 = .ok (.ireturn, 1) := by decide +kernel
theorem dX5_does_88 : decode cX5_does 88 = .ok (.aload_n 0, 1) := by decide +kernel
theorem dX5_does_89 : decode cX5_does 89 = .ok (.aload_n 0, 1) := by decide +kernel
theorem dX5_does_90 : decode cX5_does 90 = .ok (.getfield 39, 3) := by decide +kernel
theorem dX5_does_93 : decode cX5_does 93 = .ok (.iload_n 1, 1) := by decide +kernel
theorem dX5_does_94 : decode cX5_does 94 = .ok (.iaload, 1) := by decide +kernel
theorem dX5_does_95 : decode cX5_does 95 = .ok (.invokevirtual 198, 3) := by decide +kernel
theorem dX5_does_98 : decode cX5_does 98 = .ok (.istore_n 3, 1) := by decide +kernel
theorem dX5_does_99 : decode cX5_does 99 = .ok (.iload_n 3, 1) := by decide +kernel
theorem dX5_does_100 : decode cX5_does 100 = .ok (.ifCond .ge 6, 3) := by decide +kernel
theorem dX5_does_103 : decode cX5_does 103 = .ok (.bipush 119, 2) := by decide +kernel
theorem dX5_does_105 : decode cX5_does 105 = .ok (.ireturn, 1) := by decide +kernel
theorem dX5_does_106 : decode cX5_does 106 = .ok (.aload_n 0, 1) := by decide +kernel
theorem dX5_does_107 : decode cX5_does 107 = .ok (.iload_n 1, 1) := by decide +kernel
theorem dX5_does_108 : decode cX5_does 108 = .ok (.iload_n 3, 1) := by decide +kernel
theorem dX5_does_109 : decode cX5_does 109 = .ok (.invokevirtual 201, 3) := by decide +kernel
theorem dX5_does_112 : decode cX5_does 112 = .ok (.aload_n 0, 1) := by decide +kernel
theorem dX5_does_113 : decode cX5_does 113 = .ok (.iload_n 1, 1) := by decide +kernel
theorem dX5_does_114 : decode cX5_does 114 = .ok (.iload_n 2, 1) := by decide +kernel
theorem dX5_does_115 : decode cX5_does 115 = .ok (.invokevirtual 204, 3) := by decide +kernel
theorem dX5_does_118 : decode cX5_does 118 = .ok (.aload_n 0, 1) := by decide +kernel
theorem dX5_does_119 : decode cX5_does 119 = .ok (.iload_n 1, 1) := by decide +kernel
theorem dX5_does_120 : decode cX5_does 120 = .ok (.iload_n 2, 1) := by decide +kernel
theorem dX5_does_121 : decode cX5_does 121 = .ok (.invokevirtual 194, 3) := by decide +kernel
theorem dX5_does_124 : decode cX5_does 124 = .ok (.bipush 114, 2) := by decide +kernel
theorem dX5_does_126 : decode cX5_does 126 = .ok (.ireturn, 1) := by decide +kernel
theorem dX5_run_0 : decode cX5_run 0 = .ok (.aload_n 0, 1) := by decide +kernel
theorem dX5_run_1 : decode cX5_run 1 = .ok (.iload_n 1, 1) := by decide +kernel
theorem dX5_run_2 : decode cX5_run 2 = .ok (.invokevirtual 140, 3) := by decide +kernel
theorem dX5_run_5 : decode cX5_run 5 = .ok (.ifCond .eq 8, 3) := by decide +kernel
theorem dX5_run_8 : decode cX5_run 8 = .ok (.bipush 97, 2) := by decide +kernel
theorem dX5_run_10 : decode cX5_run 10 = .ok (.goto 8, 3) := by decide +kernel
theorem dX5_run_13 : decode cX5_run 13 = .ok (.aload_n 0, 1) := by decide +kernel
theorem dX5_run_14 : decode cX5_run 14 = .ok (.iload_n 1, 1) := by decide +kernel
theorem dX5_run_15 : decode cX5_run 15 = .ok (.invokevirtual 207, 3) := by decide +kernel
theorem dX5_run_18 : decode cX5_run 18 = .ok (.ireturn, 1) := by decide +kernel
theorem dX5_runAll_0 : decode cX5_runAll 0 = .ok (.aload_n 0, 1) := by decide +kernel
theorem dX5_runAll_1 : decode cX5_runAll 1 = .ok (.iconst 0, 1) := by decide +kernel
theorem dX5_runAll_2 : decode cX5_runAll 2 = .ok (.putfield 108, 3) := by decide +kernel
theorem dX5_runAll_5 : decode cX5_runAll 5 = .ok (.iconst 0, 1) := by decide +kernel
theorem dX5_runAll_6 : decode cX5_runAll 6 = .ok (.istore_n 1, 1) := by decide +kernel
theorem dX5_runAll_7 : decode cX5_runAll 7 = .ok (.iload_n 1, 1) := by decide +kernel
theorem dX5_runAll_8 : decode cX5_runAll 8 = .ok (.aload_n 0, 1) := by decide +kernel
theorem dX5_runAll_9 : decode cX5_runAll 9 = .ok (.getfield 116, 3) := by decide +kernel
theorem dX5_runAll_12 : decode cX5_runAll 12 = .ok (.if_icmp .ge 23, 3) := by decide +kernel
theorem dX5_runAll_15 : decode cX5_runAll 15 = .ok (.aload_n 0, 1) := by decide +kernel
theorem dX5_runAll_16 : decode cX5_runAll 16 = .ok (.iload_n 1, 1) := by decide +kernel
theorem dX5_runAll_17 : decode cX5_runAll 17 = .ok (.invokevirtual 211, 3) := by decide +kernel
theorem dX5_runAll_20 : decode cX5_runAll 20 = .ok (.ifCond .ne 9, 3) := by decide +kernel
theorem dX5_runAll_23 : decode cX5_runAll 23 = .ok (.aload_n 0, 1) := by decide +kernel
theorem dX5_runAll_24 : decode cX5_runAll 24 = .ok (.iload_n 1, 1) := by decide +kernel
theorem dX5_runAll_25 : decode cX5_runAll 25 = .ok (.invokevirtual 207, 3) := by decide +kernel
theorem dX5_runAll_28 : decode cX5_runAll 28 = .ok (.pop, 1) := by decide +kernel
theorem dX5_runAll_29 : decode cX5_runAll 29 = .ok (.iinc 1 1, 3) := by decide +kernel
theorem dX5_runAll_32 : decode cX5_runAll 32 = .ok (.goto (-25), 3) := by decide +kernel
theorem dX5_runAll_35 : decode cX5_runAll 35 = .ok (.aload_n 0, 1) := by decide +kernel
theorem dX5_runAll_36 : decode cX5_runAll 36 = .ok (.invokevirtual 214, 3) := by decide +kernel
theorem dX5_runAll_39 : decode cX5_runAll 39 = .ok (.ireturn, 1) := by decide +kernel
theorem dX5_isFreshBelow_0 : decode cX5_isFreshBelow 0 = .ok (.aload_n 0, 1) := by decide +kernel
theorem dX5_isFreshBelow_1 : decode cX5_isFreshBelow 1 = .ok (.getfield 20, 3) := by decide +kernel
theorem dX5_isFreshBelow_4 : decode cX5_isFreshBelow 4 = .ok (.iload_n 1, 1) := by decide +kernel
theorem dX5_isFreshBelow_5 : decode cX5_isFreshBelow 5 = .ok (.iaload, 1) := by decide +kernel
theorem dX5_isFreshBelow_6 : decode cX5_isFreshBelow 6 = .ok (.ifCond .lt 16, 3) := by decide +kernel
theorem dX5_isFreshBelow_9 : decode cX5_isFreshBelow 9 = .ok (.aload_n 0, 1) := by decide +kernel
theorem dX5_isFreshBelow_10 : decode cX5_isFreshBelow 10 = .ok (.aload_n 0, 1) := by decide +kernel
theorem dX5_isFreshBelow_11 : decode cX5_isFreshBelow 11 = .ok (.getfield 20, 3) := by decide +kernel
theorem dX5_isFreshBelow_14 : decode cX5_isFreshBelow 14 = .ok (.iload_n 1, 1) := by decide +kernel
theorem dX5_isFreshBelow_15 : decode cX5_isFreshBelow 15 = .ok (.iaload, 1) := by decide +kernel
theorem dX5_isFreshBelow_16 : decode cX5_isFreshBelow 16 = .ok (.invokevirtual 211, 3) := by decide +kernel
theorem dX5_isFreshBelow_19 : decode cX5_isFreshBelow 19 = .ok (.ifCond .eq 7, 3) := by decide +kernel
theorem dX5_isFreshBelow_22 : decode cX5_isFreshBelow 22 = .ok (.iconst 1, 1) := by decide +kernel
theorem dX5_isFreshBelow_23 : decode cX5_isFreshBelow 23 = .ok (.goto 4, 3) := by decide +kernel
theorem dX5_isFreshBelow_26 : decode cX5_isFreshBelow 26 = .ok (.iconst 0, 1) := by decide +kernel
theorem dX5_isFreshBelow_27 : decode cX5_isFreshBelow 27 = .ok (.ireturn, 1) := by decide +kernel
theorem dX5_isFresh_0 : decode cX5_isFresh 0 = .ok (.aload_n 0, 1) := by decide +kernel
theorem dX5_isFresh_1 : decode cX5_isFresh 1 = .ok (.getfield 48, 3) := by decide +kernel
theorem dX5_isFresh_4 : decode cX5_isFresh 4 = .ok (.iload_n 1, 1) := by decide +kernel
theorem dX5_isFresh_5 : decode cX5_isFresh 5 = .ok (.caload, 1) := by decide +kernel
theorem dX5_isFresh_6 : decode cX5_isFresh 6 = .ok (.bipush 102, 2) := by decide +kernel
theorem dX5_isFresh_8 : decode cX5_isFresh 8 = .ok (.if_icmp .ne 52, 3) := by decide +kernel
theorem dX5_isFresh_11 : decode cX5_isFresh 11 = .ok (.aload_n 0, 1) := by decide +kernel
theorem dX5_isFresh_12 : decode cX5_isFresh 12 = .ok (.getfield 57, 3) := by decide +kernel
theorem dX5_isFresh_15 : decode cX5_isFresh 15 = .ok (.iload_n 1, 1) := by decide +kernel
theorem dX5_isFresh_16 : decode cX5_isFresh 16 = .ok (.iaload, 1) := by decide +kernel
theorem dX5_isFresh_17 : decode cX5_isFresh 17 = .ok (.aload_n 0, 1) := by decide +kernel
theorem dX5_isFresh_18 : decode cX5_isFresh 18 = .ok (.getfield 33, 3) := by decide +kernel
theorem dX5_isFresh_21 : decode cX5_isFresh 21 = .ok (.iload_n 1, 1) := by decide +kernel
theorem dX5_isFresh_22 : decode cX5_isFresh 22 = .ok (.iaload, 1) := by decide +kernel
theorem dX5_isFresh_23 : decode cX5_isFresh 23 = .ok (.if_icmp .ne 37, 3) := by decide +kernel
theorem dX5_isFresh_26 : decode cX5_isFresh 26 = .ok (.aload_n 0, 1) := by decide +kernel
theorem dX5_isFresh_27 : decode cX5_isFresh 27 = .ok (.getfield 51, 3) := by decide +kernel
theorem dX5_isFresh_30 : decode cX5_isFresh 30 = .ok (.iload_n 1, 1) := by decide +kernel
theorem dX5_isFresh_31 : decode cX5_isFresh 31 = .ok (.iaload, 1) := by decide +kernel
theorem dX5_isFresh_32 : decode cX5_isFresh 32 = .ok (.aload_n 0, 1) := by decide +kernel
theorem dX5_isFresh_33 : decode cX5_isFresh 33 = .ok (.getfield 17, 3) := by decide +kernel
theorem dX5_isFresh_36 : decode cX5_isFresh 36 = .ok (.aload_n 0, 1) := by decide +kernel
theorem dX5_isFresh_37 : decode cX5_isFresh 37 = .ok (.getfield 27, 3) := by decide +kernel
theorem dX5_isFresh_40 : decode cX5_isFresh 40 = .ok (.iload_n 1, 1) := by decide +kernel
theorem dX5_isFresh_41 : decode cX5_isFresh 41 = .ok (.iaload, 1) := by decide +kernel
theorem dX5_isFresh_42 : decode cX5_isFresh 42 = .ok (.iaload, 1) := by decide +kernel
theorem dX5_isFresh_43 : decode cX5_isFresh 43 = .ok (.if_icmp .ne 17, 3) := by decide +kernel
theorem dX5_isFresh_46 : decode cX5_isFresh 46 = .ok (.aload_n 0, 1) := by decide +kernel
theorem dX5_isFresh_47 : decode cX5_isFresh 47 = .ok (.getfield 54, 3) := by decide +kernel
theorem dX5_isFresh_50 : decode cX5_isFresh 50 = .ok (.iload_n 1, 1) := by decide +kernel
theorem dX5_isFresh_51 : decode cX5_isFresh 51 = .ok (.iaload, 1) := by decide +kernel
theorem dX5_isFresh_52 : decode cX5_isFresh 52 = .ok (.aload_n 0, 1) := by decide +kernel
theorem dX5_isFresh_53 : decode cX5_isFresh 53 = .ok (.iload_n 1, 1) := by decide +kernel
theorem dX5_isFresh_54 : decode cX5_isFresh 54 = .ok (.invokevirtual 165, 3) := by decide +kernel
theorem dX5_isFresh_57 : decode cX5_isFresh 57 = .ok (.if_icmp .eq 5, 3) := by decide +kernel
theorem dX5_isFresh_60 : decode cX5_isFresh 60 = .ok (.iconst 0, 1) := by decide +kernel
theorem dX5_isFresh_61 : decode cX5_isFresh 61 = .ok (.ireturn, 1) := by decide +kernel
theorem dX5_isFresh_62 : decode cX5_isFresh 62 = .ok (.aload_n 0, 1) := by decide +kernel
theorem dX5_isFresh_63 : decode cX5_isFresh 63 = .ok (.aload_n 0, 1) := by decide +kernel
theorem dX5_isFresh_64 : decode cX5_isFresh 64 = .ok (.getfield 27, 3) := by decide +kernel
theorem dX5_isFresh_67 : decode cX5_isFresh 67 = .ok (.iload_n 1, 1) := by decide +kernel
theorem dX5_isFresh_68 : decode cX5_isFresh 68 = .ok (.iaload, 1) := by decide +kernel
theorem dX5_isFresh_69 : decode cX5_isFresh 69 = .ok (.invokevirtual 218, 3) := by decide +kernel
theorem dX5_isFresh_72 : decode cX5_isFresh 72 = .ok (.ifCond .eq 29, 3) := by decide +kernel
theorem dX5_isFresh_75 : decode cX5_isFresh 75 = .ok (.aload_n 0, 1) := by decide +kernel
theorem dX5_isFresh_76 : decode cX5_isFresh 76 = .ok (.getfield 30, 3) := by decide +kernel
theorem dX5_isFresh_79 : decode cX5_isFresh 79 = .ok (.iload_n 1, 1) := by decide +kernel
theorem dX5_isFresh_80 : decode cX5_isFresh 80 = .ok (.iaload, 1) := by decide +kernel
theorem dX5_isFresh_81 : decode cX5_isFresh 81 = .ok (.ifCond .lt 16, 3) := by decide +kernel
theorem dX5_isFresh_84 : decode cX5_isFresh 84 = .ok (.aload_n 0, 1) := by decide +kernel
theorem dX5_isFresh_85 : decode cX5_isFresh 85 = .ok (.aload_n 0, 1) := by decide +kernel
theorem dX5_isFresh_86 : decode cX5_isFresh 86 = .ok (.getfield 30, 3) := by decide +kernel
theorem dX5_isFresh_89 : decode cX5_isFresh 89 = .ok (.iload_n 1, 1) := by decide +kernel
theorem dX5_isFresh_90 : decode cX5_isFresh 90 = .ok (.iaload, 1) := by decide +kernel
theorem dX5_isFresh_91 : decode cX5_isFresh 91 = .ok (.invokevirtual 218, 3) := by decide +kernel
theorem dX5_isFresh_94 : decode cX5_isFresh 94 = .ok (.ifCond .eq 7, 3) := by decide +kernel
theorem dX5_isFresh_97 : decode cX5_isFresh 97 = .ok (.iconst 1, 1) := by decide +kernel
theorem dX5_isFresh_98 : decode cX5_isFresh 98 = .ok (.goto 4, 3) := by decide +kernel
theorem dX5_isFresh_101 : decode cX5_isFresh 101 = .ok (.iconst 0, 1) := by decide +kernel
theorem dX5_isFresh_102 : decode cX5_isFresh 102 = .ok (.ireturn, 1) := by decide +kernel
theorem dX5_state_0 : decode cX5_state 0 = .ok (.aload_n 0, 1) := by decide +kernel
theorem dX5_state_1 : decode cX5_state 1 = .ok (.iload_n 1, 1) := by decide +kernel
theorem dX5_state_2 : decode cX5_state 2 = .ok (.invokevirtual 140, 3) := by decide +kernel
theorem dX5_state_5 : decode cX5_state 5 = .ok (.ifCond .eq 8, 3) := by decide +kernel
theorem dX5_state_8 : decode cX5_state 8 = .ok (.bipush 97, 2) := by decide +kernel
theorem dX5_state_10 : decode cX5_state 10 = .ok (.goto 38, 3) := by decide +kernel
theorem dX5_state_13 : decode cX5_state 13 = .ok (.aload_n 0, 1) := by decide +kernel
theorem dX5_state_14 : decode cX5_state 14 = .ok (.getfield 48, 3) := by decide +kernel
theorem dX5_state_17 : decode cX5_state 17 = .ok (.iload_n 1, 1) := by decide +kernel
theorem dX5_state_18 : decode cX5_state 18 = .ok (.caload, 1) := by decide +kernel
theorem dX5_state_19 : decode cX5_state 19 = .ok (.bipush 102, 2) := by decide +kernel
theorem dX5_state_21 : decode cX5_state 21 = .ok (.if_icmp .eq 12, 3) := by decide +kernel
theorem dX5_state_24 : decode cX5_state 24 = .ok (.aload_n 0, 1) := by decide +kernel
theorem dX5_state_25 : decode cX5_state 25 = .ok (.getfield 48, 3) := by decide +kernel
theorem dX5_state_28 : decode cX5_state 28 = .ok (.iload_n 1, 1) := by decide +kernel
theorem dX5_state_29 : decode cX5_state 29 = .ok (.caload, 1) := by decide +kernel
theorem dX5_state_30 : decode cX5_state 30 = .ok (.goto 18, 3) := by decide +kernel
theorem dX5_state_33 : decode cX5_state 33 = .ok (.aload_n 0, 1) := by decide +kernel
theorem dX5_state_34 : decode cX5_state 34 = .ok (.iload_n 1, 1) := by decide +kernel
theorem dX5_state_35 : decode cX5_state 35 = .ok (.invokevirtual 211, 3) := by decide +kernel
theorem dX5_state_38 : decode cX5_state 38 = .ok (.ifCond .eq 8, 3) := by decide +kernel
theorem dX5_state_41 : decode cX5_state 41 = .ok (.bipush 102, 2) := by decide +kernel
theorem dX5_state_43 : decode cX5_state 43 = .ok (.goto 5, 3) := by decide +kernel
theorem dX5_state_46 : decode cX5_state 46 = .ok (.bipush 115, 2) := by decide +kernel
theorem dX5_state_48 : decode cX5_state 48 = .ok (.ireturn, 1) := by decide +kernel
theorem dX5_resultAnew_0 : decode cX5_resultAnew 0 = .ok (.aload_n 0, 1) := by decide +kernel
theorem dX5_resultAnew_1 : decode cX5_resultAnew 1 = .ok (.iload_n 1, 1) := by decide +kernel
theorem dX5_resultAnew_2 : decode cX5_resultAnew 2 = .ok (.invokevirtual 140, 3) := by decide +kernel
theorem dX5_resultAnew_5 : decode cX5_resultAnew 5 = .ok (.ifCond .ne 23, 3) := by decide +kernel
theorem dX5_resultAnew_8 : decode cX5_resultAnew 8 = .ok (.aload_n 0, 1) := by decide +kernel
theorem dX5_resultAnew_9 : decode cX5_resultAnew 9 = .ok (.aload_n 0, 1) := by decide +kernel
theorem dX5_resultAnew_10 : decode cX5_resultAnew 10 = .ok (.iload_n 1, 1) := by decide +kernel
theorem dX5_resultAnew_11 : decode cX5_resultAnew 11 = .ok (.invokevirtual 158, 3) := by decide +kernel
theorem dX5_resultAnew_14 : decode cX5_resultAnew 14 = .ok (.ifCond .ge 7, 3) := by decide +kernel
theorem dX5_resultAnew_17 : decode cX5_resultAnew 17 = .ok (.iconst 2, 1) := by decide +kernel
theorem dX5_resultAnew_18 : decode cX5_resultAnew 18 = .ok (.goto 4, 3) := by decide +kernel
theorem dX5_resultAnew_21 : decode cX5_resultAnew 21 = .ok (.iconst 0, 1) := by decide +kernel
theorem dX5_resultAnew_22 : decode cX5_resultAnew 22 = .ok (.invokevirtual 119, 3) := by decide +kernel
theorem dX5_resultAnew_25 : decode cX5_resultAnew 25 = .ok (.ifCond .eq 7, 3) := by decide +kernel
theorem dX5_resultAnew_28 : decode cX5_resultAnew 28 = .ok (.iconst 0, 1) := by decide +kernel
theorem dX5_resultAnew_29 : decode cX5_resultAnew 29 = .ok (.goto 8, 3) := by decide +kernel
theorem dX5_resultAnew_32 : decode cX5_resultAnew 32 = .ok (.aload_n 0, 1) := by decide +kernel
theorem dX5_resultAnew_33 : decode cX5_resultAnew 33 = .ok (.iload_n 1, 1) := by decide +kernel
theorem dX5_resultAnew_34 : decode cX5_resultAnew 34 = .ok (.invokevirtual 158, 3) := by decide +kernel
theorem dX5_resultAnew_37 : decode cX5_resultAnew 37 = .ok (.ireturn, 1) := by decide +kernel
theorem dX5_allFresh_0 : decode cX5_allFresh 0 = .ok (.iconst 0, 1) := by decide +kernel
theorem dX5_allFresh_1 : decode cX5_allFresh 1 = .ok (.istore_n 1, 1) := by decide +kernel
theorem dX5_allFresh_2 : decode cX5_allFresh 2 = .ok (.iconst 0, 1) := by decide +kernel
theorem dX5_allFresh_3 : decode cX5_allFresh 3 = .ok (.istore_n 2, 1) := by decide +kernel
theorem dX5_allFresh_4 : decode cX5_allFresh 4 = .ok (.iload_n 2, 1) := by decide +kernel
theorem dX5_allFresh_5 : decode cX5_allFresh 5 = .ok (.aload_n 0, 1) := by decide +kernel
theorem dX5_allFresh_6 : decode cX5_allFresh 6 = .ok (.getfield 116, 3) := by decide +kernel
theorem dX5_allFresh_9 : decode cX5_allFresh 9 = .ok (.if_icmp .ge 25, 3) := by decide +kernel
theorem dX5_allFresh_12 : decode cX5_allFresh 12 = .ok (.iload_n 1, 1) := by decide +kernel
theorem dX5_allFresh_13 : decode cX5_allFresh 13 = .ok (.aload_n 0, 1) := by decide +kernel
theorem dX5_allFresh_14 : decode cX5_allFresh 14 = .ok (.iload_n 2, 1) := by decide +kernel
theorem dX5_allFresh_15 : decode cX5_allFresh 15 = .ok (.invokevirtual 211, 3) := by decide +kernel
theorem dX5_allFresh_18 : decode cX5_allFresh 18 = .ok (.ifCond .eq 7, 3) := by decide +kernel
theorem dX5_allFresh_21 : decode cX5_allFresh 21 = .ok (.iconst 1, 1) := by decide +kernel
theorem dX5_allFresh_22 : decode cX5_allFresh 22 = .ok (.goto 4, 3) := by decide +kernel
theorem dX5_allFresh_25 : decode cX5_allFresh 25 = .ok (.iconst 0, 1) := by decide +kernel
theorem dX5_allFresh_26 : decode cX5_allFresh 26 = .ok (.iadd, 1) := by decide +kernel
theorem dX5_allFresh_27 : decode cX5_allFresh 27 = .ok (.istore_n 1, 1) := by decide +kernel
theorem dX5_allFresh_28 : decode cX5_allFresh 28 = .ok (.iinc 2 1, 3) := by decide +kernel
theorem dX5_allFresh_31 : decode cX5_allFresh 31 = .ok (.goto (-27), 3) := by decide +kernel
theorem dX5_allFresh_34 : decode cX5_allFresh 34 = .ok (.iload_n 1, 1) := by decide +kernel
theorem dX5_allFresh_35 : decode cX5_allFresh 35 = .ok (.ireturn, 1) := by decide +kernel
theorem dX5_fresh_0 : decode cX5_fresh 0 = .ok (.aload_n 0, 1) := by decide +kernel
theorem dX5_fresh_1 : decode cX5_fresh 1 = .ok (.aload_n 0, 1) := by decide +kernel
theorem dX5_fresh_2 : decode cX5_fresh 2 = .ok (.invokevirtual 214, 3) := by decide +kernel
theorem dX5_fresh_5 : decode cX5_fresh 5 = .ok (.invokevirtual 143, 3) := by decide +kernel
theorem dX5_fresh_8 : decode cX5_fresh 8 = .ok (.ireturn, 1) := by decide +kernel
theorem dX5_runs_0 : decode cX5_runs 0 = .ok (.aload_n 0, 1) := by decide +kernel
theorem dX5_runs_1 : decode cX5_runs 1 = .ok (.iload_n 1, 1) := by decide +kernel
theorem dX5_runs_2 : decode cX5_runs 2 = .ok (.invokevirtual 140, 3) := by decide +kernel
theorem dX5_runs_5 : decode cX5_runs 5 = .ok (.ifCond .eq 7, 3) := by decide +kernel
theorem dX5_runs_8 : decode cX5_runs 8 = .ok (.iconst 0, 1) := by decide +kernel
theorem dX5_runs_9 : decode cX5_runs 9 = .ok (.goto 9, 3) := by decide +kernel
theorem dX5_runs_12 : decode cX5_runs 12 = .ok (.aload_n 0, 1) := by decide +kernel
theorem dX5_runs_13 : decode cX5_runs 13 = .ok (.getfield 60, 3) := by decide +kernel
theorem dX5_runs_16 : decode cX5_runs 16 = .ok (.iload_n 1, 1) := by decide +kernel
theorem dX5_runs_17 : decode cX5_runs 17 = .ok (.iaload, 1) := by decide +kernel
theorem dX5_runs_18 : decode cX5_runs 18 = .ok (.ireturn, 1) := by decide +kernel
theorem dX5_found_0 : decode cX5_found 0 = .ok (.aload_n 0, 1) := by decide +kernel
theorem dX5_found_1 : decode cX5_found 1 = .ok (.iload_n 1, 1) := by decide +kernel
theorem dX5_found_2 : decode cX5_found 2 = .ok (.invokevirtual 140, 3) := by decide +kernel
theorem dX5_found_5 : decode cX5_found 5 = .ok (.ifCond .eq 7, 3) := by decide +kernel
theorem dX5_found_8 : decode cX5_found 8 = .ok (.iconst 0, 1) := by decide +kernel
theorem dX5_found_9 : decode cX5_found 9 = .ok (.goto 9, 3) := by decide +kernel
theorem dX5_found_12 : decode cX5_found 12 = .ok (.aload_n 0, 1) := by decide +kernel
theorem dX5_found_13 : decode cX5_found 13 = .ok (.getfield 63, 3) := by decide +kernel
theorem dX5_found_16 : decode cX5_found 16 = .ok (.iload_n 1, 1) := by decide +kernel
theorem dX5_found_17 : decode cX5_found 17 = .ok (.iaload, 1) := by decide +kernel
theorem dX5_found_18 : decode cX5_found 18 = .ok (.ireturn, 1) := by decide +kernel
theorem dX5_isNoFailure_0 : decode cX5_isNoFailure 0 = .ok (.aload_n 0, 1) := by decide +kernel
theorem dX5_isNoFailure_1 : decode cX5_isNoFailure 1 = .ok (.iload_n 1, 1) := by decide +kernel
theorem dX5_isNoFailure_2 : decode cX5_isNoFailure 2 = .ok (.invokevirtual 140, 3) := by decide +kernel
theorem dX5_isNoFailure_5 : decode cX5_isNoFailure 5 = .ok (.ifCond .ne 26, 3) := by decide +kernel
theorem dX5_isNoFailure_8 : decode cX5_isNoFailure 8 = .ok (.aload_n 0, 1) := by decide +kernel
theorem dX5_isNoFailure_9 : decode cX5_isNoFailure 9 = .ok (.aload_n 0, 1) := by decide +kernel
theorem dX5_isNoFailure_10 : decode cX5_isNoFailure 10 = .ok (.getfield 48, 3) := by decide +kernel
theorem dX5_isNoFailure_13 : decode cX5_isNoFailure 13 = .ok (.iload_n 1, 1) := by decide +kernel
theorem dX5_isNoFailure_14 : decode cX5_isNoFailure 14 = .ok (.caload, 1) := by decide +kernel
theorem dX5_isNoFailure_15 : decode cX5_isNoFailure 15 = .ok (.bipush 120, 2) := by decide +kernel
theorem dX5_isNoFailure_17 : decode cX5_isNoFailure 17 = .ok (.if_icmp .ne 7, 3) := by decide +kernel
theorem dX5_isNoFailure_20 : decode cX5_isNoFailure 20 = .ok (.iconst 0, 1) := by decide +kernel
theorem dX5_isNoFailure_21 : decode cX5_isNoFailure 21 = .ok (.goto 4, 3) := by decide +kernel
theorem dX5_isNoFailure_24 : decode cX5_isNoFailure 24 = .ok (.iconst 2, 1) := by decide +kernel
theorem dX5_isNoFailure_25 : decode cX5_isNoFailure 25 = .ok (.invokevirtual 119, 3) := by decide +kernel
theorem dX5_isNoFailure_28 : decode cX5_isNoFailure 28 = .ok (.ifCond .eq 7, 3) := by decide +kernel
theorem dX5_isNoFailure_31 : decode cX5_isNoFailure 31 = .ok (.iconst 1, 1) := by decide +kernel
theorem dX5_isNoFailure_32 : decode cX5_isNoFailure 32 = .ok (.goto 4, 3) := by decide +kernel
theorem dX5_isNoFailure_35 : decode cX5_isNoFailure 35 = .ok (.iconst 0, 1) := by decide +kernel
theorem dX5_isNoFailure_36 : decode cX5_isNoFailure 36 = .ok (.ireturn, 1) := by decide +kernel
theorem dX5_failure_0 : decode cX5_failure 0 = .ok (.aload_n 0, 1) := by decide +kernel
theorem dX5_failure_1 : decode cX5_failure 1 = .ok (.iload_n 1, 1) := by decide +kernel
theorem dX5_failure_2 : decode cX5_failure 2 = .ok (.invokevirtual 221, 3) := by decide +kernel
theorem dX5_failure_5 : decode cX5_failure 5 = .ok (.ifCond .eq 8, 3) := by decide +kernel
theorem dX5_failure_8 : decode cX5_failure 8 = .ok (.bipush 97, 2) := by decide +kernel
theorem dX5_failure_10 : decode cX5_failure 10 = .ok (.goto 9, 3) := by decide +kernel
theorem dX5_failure_13 : decode cX5_failure 13 = .ok (.aload_n 0, 1) := by decide +kernel
theorem dX5_failure_14 : decode cX5_failure 14 = .ok (.getfield 72, 3) := by decide +kernel
theorem dX5_failure_17 : decode cX5_failure 17 = .ok (.iload_n 1, 1) := by decide +kernel
theorem dX5_failure_18 : decode cX5_failure 18 = .ok (.caload, 1) := by decide +kernel
theorem dX5_failure_19 : decode cX5_failure 19 = .ok (.ireturn, 1) := by decide +kernel
theorem dX5_root_0 : decode cX5_root 0 = .ok (.aload_n 0, 1) := by decide +kernel
theorem dX5_root_1 : decode cX5_root 1 = .ok (.iload_n 1, 1) := by decide +kernel
theorem dX5_root_2 : decode cX5_root 2 = .ok (.invokevirtual 221, 3) := by decide +kernel
theorem dX5_root_5 : decode cX5_root 5 = .ok (.ifCond .eq 7, 3) := by decide +kernel
theorem dX5_root_8 : decode cX5_root 8 = .ok (.iconst 0, 1) := by decide +kernel
theorem dX5_root_9 : decode cX5_root 9 = .ok (.goto 9, 3) := by decide +kernel
theorem dX5_root_12 : decode cX5_root 12 = .ok (.aload_n 0, 1) := by decide +kernel
theorem dX5_root_13 : decode cX5_root 13 = .ok (.getfield 66, 3) := by decide +kernel
theorem dX5_root_16 : decode cX5_root 16 = .ok (.iload_n 1, 1) := by decide +kernel
theorem dX5_root_17 : decode cX5_root 17 = .ok (.iaload, 1) := by decide +kernel
theorem dX5_root_18 : decode cX5_root 18 = .ok (.ireturn, 1) := by decide +kernel
theorem dX5_rootFailure_0 : decode cX5_rootFailure 0 = .ok (.aload_n 0, 1) := by decide +kernel
theorem dX5_rootFailure_1 : decode cX5_rootFailure 1 = .ok (.iload_n 1, 1) := by decide +kernel
theorem dX5_rootFailure_2 : decode cX5_rootFailure 2 = .ok (.invokevirtual 221, 3) := by decide +kernel
theorem dX5_rootFailure_5 : decode cX5_rootFailure 5 = .ok (.ifCond .eq 8, 3) := by decide +kernel
theorem dX5_rootFailure_8 : decode cX5_rootFailure 8 = .ok (.bipush 97, 2) := by decide +kernel
theorem dX5_rootFailure_10 : decode cX5_rootFailure 10 = .ok (.goto 9, 3) := by decide +kernel
theorem dX5_rootFailure_13 : decode cX5_rootFailure 13 = .ok (.aload_n 0, 1) := by decide +kernel
theorem dX5_rootFailure_14 : decode cX5_rootFailure 14 = .ok (.getfield 69, 3) := by decide +kernel
theorem dX5_rootFailure_17 : decode cX5_rootFailure 17 = .ok (.iload_n 1, 1) := by decide +kernel
theorem dX5_rootFailure_18 : decode cX5_rootFailure 18 = .ok (.caload, 1) := by decide +kernel
theorem dX5_rootFailure_19 : decode cX5_rootFailure 19 = .ok (.ireturn, 1) := by decide +kernel
theorem dX5_causes_0 : decode cX5_causes 0 = .ok (.aload_n 0, 1) := by decide +kernel
theorem dX5_causes_1 : decode cX5_causes 1 = .ok (.iload_n 1, 1) := by decide +kernel
theorem dX5_causes_2 : decode cX5_causes 2 = .ok (.invokevirtual 221, 3) := by decide +kernel
theorem dX5_causes_5 : decode cX5_causes 5 = .ok (.ifCond .eq 7, 3) := by decide +kernel
theorem dX5_causes_8 : decode cX5_causes 8 = .ok (.iconst 0, 1) := by decide +kernel
theorem dX5_causes_9 : decode cX5_causes 9 = .ok (.goto 9, 3) := by decide +kernel
theorem dX5_causes_12 : decode cX5_causes 12 = .ok (.aload_n 0, 1) := by decide +kernel
theorem dX5_causes_13 : decode cX5_causes 13 = .ok (.getfield 75, 3) := by decide +kernel
theorem dX5_causes_16 : decode cX5_causes 16 = .ok (.iload_n 1, 1) := by decide +kernel
theorem dX5_causes_17 : decode cX5_causes 17 = .ok (.iaload, 1) := by decide +kernel
theorem dX5_causes_18 : decode cX5_causes 18 = .ok (.ireturn, 1) := by decide +kernel
theorem dX5_comesFrom_0 : decode cX5_comesFrom 0 = .ok (.iload_n 1, 1) := by decide +kernel
theorem dX5_comesFrom_1 : decode cX5_comesFrom 1 = .ok (.iload_n 2, 1) := by decide +kernel
theorem dX5_comesFrom_2 : decode cX5_comesFrom 2 = .ok (.if_icmp .eq 26, 3) := by decide +kernel
theorem dX5_comesFrom_5 : decode cX5_comesFrom 5 = .ok (.aload_n 0, 1) := by decide +kernel
theorem dX5_comesFrom_6 : decode cX5_comesFrom 6 = .ok (.getfield 20, 3) := by decide +kernel
theorem dX5_comesFrom_9 : decode cX5_comesFrom 9 = .ok (.iload_n 1, 1) := by decide +kernel
theorem dX5_comesFrom_10 : decode cX5_comesFrom 10 = .ok (.iaload, 1) := by decide +kernel
theorem dX5_comesFrom_11 : decode cX5_comesFrom 11 = .ok (.ifCond .lt 21, 3) := by decide +kernel
theorem dX5_comesFrom_14 : decode cX5_comesFrom 14 = .ok (.aload_n 0, 1) := by decide +kernel
theorem dX5_comesFrom_15 : decode cX5_comesFrom 15 = .ok (.aload_n 0, 1) := by decide +kernel
theorem dX5_comesFrom_16 : decode cX5_comesFrom 16 = .ok (.getfield 20, 3) := by decide +kernel
theorem dX5_comesFrom_19 : decode cX5_comesFrom 19 = .ok (.iload_n 1, 1) := by decide +kernel
theorem dX5_comesFrom_20 : decode cX5_comesFrom 20 = .ok (.iaload, 1) := by decide +kernel
theorem dX5_comesFrom_21 : decode cX5_comesFrom 21 = .ok (.iload_n 2, 1) := by decide +kernel
theorem dX5_comesFrom_22 : decode cX5_comesFrom 22 = .ok (.invokevirtual 224, 3) := by decide +kernel
theorem dX5_comesFrom_25 : decode cX5_comesFrom 25 = .ok (.ifCond .eq 7, 3) := by decide +kernel
theorem dX5_comesFrom_28 : decode cX5_comesFrom 28 = .ok (.iconst 1, 1) := by decide +kernel
theorem dX5_comesFrom_29 : decode cX5_comesFrom 29 = .ok (.goto 4, 3) := by decide +kernel
theorem dX5_comesFrom_32 : decode cX5_comesFrom 32 = .ok (.iconst 0, 1) := by decide +kernel
theorem dX5_comesFrom_33 : decode cX5_comesFrom 33 = .ok (.ireturn, 1) := by decide +kernel
theorem dX5_isOn_0 : decode cX5_isOn 0 = .ok (.aload_n 0, 1) := by decide +kernel
theorem dX5_isOn_1 : decode cX5_isOn 1 = .ok (.aload_n 0, 1) := by decide +kernel
theorem dX5_isOn_2 : decode cX5_isOn 2 = .ok (.getfield 27, 3) := by decide +kernel
theorem dX5_isOn_5 : decode cX5_isOn 5 = .ok (.iload_n 1, 1) := by decide +kernel
theorem dX5_isOn_6 : decode cX5_isOn 6 = .ok (.iaload, 1) := by decide +kernel
theorem dX5_isOn_7 : decode cX5_isOn 7 = .ok (.iload_n 2, 1) := by decide +kernel
theorem dX5_isOn_8 : decode cX5_isOn 8 = .ok (.invokevirtual 228, 3) := by decide +kernel
theorem dX5_isOn_11 : decode cX5_isOn 11 = .ok (.ifCond .ne 26, 3) := by decide +kernel
theorem dX5_isOn_14 : decode cX5_isOn 14 = .ok (.aload_n 0, 1) := by decide +kernel
theorem dX5_isOn_15 : decode cX5_isOn 15 = .ok (.getfield 30, 3) := by decide +kernel
theorem dX5_isOn_18 : decode cX5_isOn 18 = .ok (.iload_n 1, 1) := by decide +kernel
theorem dX5_isOn_19 : decode cX5_isOn 19 = .ok (.iaload, 1) := by decide +kernel
theorem dX5_isOn_20 : decode cX5_isOn 20 = .ok (.ifCond .lt 21, 3) := by decide +kernel
theorem dX5_isOn_23 : decode cX5_isOn 23 = .ok (.aload_n 0, 1) := by decide +kernel
theorem dX5_isOn_24 : decode cX5_isOn 24 = .ok (.aload_n 0, 1) := by decide +kernel
theorem dX5_isOn_25 : decode cX5_isOn 25 = .ok (.getfield 30, 3) := by decide +kernel
theorem dX5_isOn_28 : decode cX5_isOn 28 = .ok (.iload_n 1, 1) := by decide +kernel
theorem dX5_isOn_29 : decode cX5_isOn 29 = .ok (.iaload, 1) := by decide +kernel
theorem dX5_isOn_30 : decode cX5_isOn 30 = .ok (.iload_n 2, 1) := by decide +kernel
theorem dX5_isOn_31 : decode cX5_isOn 31 = .ok (.invokevirtual 228, 3) := by decide +kernel
theorem dX5_isOn_34 : decode cX5_isOn 34 = .ok (.ifCond .eq 7, 3) := by decide +kernel
theorem dX5_isOn_37 : decode cX5_isOn 37 = .ok (.iconst 1, 1) := by decide +kernel
theorem dX5_isOn_38 : decode cX5_isOn 38 = .ok (.goto 4, 3) := by decide +kernel
theorem dX5_isOn_41 : decode cX5_isOn 41 = .ok (.iconst 0, 1) := by decide +kernel
theorem dX5_isOn_42 : decode cX5_isOn 42 = .ok (.ireturn, 1) := by decide +kernel
theorem dX5_depends_0 : decode cX5_depends 0 = .ok (.aload_n 0, 1) := by decide +kernel
theorem dX5_depends_1 : decode cX5_depends 1 = .ok (.iload_n 1, 1) := by decide +kernel
theorem dX5_depends_2 : decode cX5_depends 2 = .ok (.invokevirtual 140, 3) := by decide +kernel
theorem dX5_depends_5 : decode cX5_depends 5 = .ok (.ifCond .ne 35, 3) := by decide +kernel
theorem dX5_depends_8 : decode cX5_depends 8 = .ok (.aload_n 0, 1) := by decide +kernel
theorem dX5_depends_9 : decode cX5_depends 9 = .ok (.iload_n 2, 1) := by decide +kernel
theorem dX5_depends_10 : decode cX5_depends 10 = .ok (.invokestatic 123, 3) := by decide +kernel
theorem dX5_depends_13 : decode cX5_depends 13 = .ok (.ifCond .eq 7, 3) := by decide +kernel
theorem dX5_depends_16 : decode cX5_depends 16 = .ok (.iconst 2, 1) := by decide +kernel
theorem dX5_depends_17 : decode cX5_depends 17 = .ok (.goto 4, 3) := by decide +kernel
theorem dX5_depends_20 : decode cX5_depends 20 = .ok (.iconst 0, 1) := by decide +kernel
theorem dX5_depends_21 : decode cX5_depends 21 = .ok (.invokevirtual 119, 3) := by decide +kernel
theorem dX5_depends_24 : decode cX5_depends 24 = .ok (.ifCond .ne 16, 3) := by decide +kernel
theorem dX5_depends_27 : decode cX5_depends 27 = .ok (.aload_n 0, 1) := by decide +kernel
theorem dX5_depends_28 : decode cX5_depends 28 = .ok (.iload_n 1, 1) := by decide +kernel
theorem dX5_depends_29 : decode cX5_depends 29 = .ok (.iload_n 2, 1) := by decide +kernel
theorem dX5_depends_30 : decode cX5_depends 30 = .ok (.invokevirtual 224, 3) := by decide +kernel
theorem dX5_depends_33 : decode cX5_depends 33 = .ok (.ifCond .eq 7, 3) := by decide +kernel
theorem dX5_depends_36 : decode cX5_depends 36 = .ok (.iconst 1, 1) := by decide +kernel
theorem dX5_depends_37 : decode cX5_depends 37 = .ok (.goto 4, 3) := by decide +kernel
theorem dX5_depends_40 : decode cX5_depends 40 = .ok (.iconst 0, 1) := by decide +kernel
theorem dX5_depends_41 : decode cX5_depends 41 = .ok (.ireturn, 1) := by decide +kernel
theorem dX5_owners_0 : decode cX5_owners 0 = .ok (.aload_n 0, 1) := by decide +kernel
theorem dX5_owners_1 : decode cX5_owners 1 = .ok (.iload_n 1, 1) := by decide +kernel
theorem dX5_owners_2 : decode cX5_owners 2 = .ok (.invokevirtual 140, 3) := by decide +kernel
theorem dX5_owners_5 : decode cX5_owners 5 = .ok (.ifCond .eq 5, 3) := by decide +kernel
theorem dX5_owners_8 : decode cX5_owners 8 = .ok (.iconst 0, 1) := by decide +kernel
theorem dX5_owners_9 : decode cX5_owners 9 = .ok (.ireturn, 1) := by decide +kernel
theorem dX5_owners_10 : decode cX5_owners 10 = .ok (.iconst 0, 1) := by decide +kernel
theorem dX5_owners_11 : decode cX5_owners 11 = .ok (.istore_n 2, 1) := by decide +kernel
theorem dX5_owners_12 : decode cX5_owners 12 = .ok (.iconst 0, 1) := by decide +kernel
theorem dX5_owners_13 : decode cX5_owners 13 = .ok (.istore_n 3, 1) := by decide +kernel
theorem dX5_owners_14 : decode cX5_owners 14 = .ok (.iload_n 3, 1) := by decide +kernel
theorem dX5_owners_15 : decode cX5_owners 15 = .ok (.bipush 12, 2) := by decide +kernel
theorem dX5_owners_17 : decode cX5_owners 17 = .ok (.if_icmp .ge 38, 3) := by decide +kernel
theorem dX5_owners_20 : decode cX5_owners 20 = .ok (.aload_n 0, 1) := by decide +kernel
theorem dX5_owners_21 : decode cX5_owners 21 = .ok (.getfield 7, 3) := by decide +kernel
theorem dX5_owners_24 : decode cX5_owners 24 = .ok (.iload_n 3, 1) := by decide +kernel
theorem dX5_owners_25 : decode cX5_owners 25 = .ok (.baload, 1) := by decide +kernel
theorem dX5_owners_26 : decode cX5_owners 26 = .ok (.ifCond .eq 23, 3) := by decide +kernel
theorem dX5_owners_29 : decode cX5_owners 29 = .ok (.aload_n 0, 1) := by decide +kernel
theorem dX5_owners_30 : decode cX5_owners 30 = .ok (.iload_n 1, 1) := by decide +kernel
theorem dX5_owners_31 : decode cX5_owners 31 = .ok (.iload_n 3, 1) := by decide +kernel
theorem dX5_owners_32 : decode cX5_owners 32 = .ok (.invokevirtual 224, 3) := by decide +kernel
theorem dX5_owners_35 : decode cX5_owners 35 = .ok (.ifCond .eq 14, 3) := by decide +kernel
theorem dX5_owners_38 : decode cX5_owners 38 = .ok (.iload_n 2, 1) := by decide +kernel
theorem dX5_owners_39 : decode cX5_owners 39 = .ok (.iconst 1, 1) := by decide +kernel
theorem dX5_owners_40 : decode cX5_owners 40 = .ok (.aload_n 0, 1) := by decide +kernel
theorem dX5_owners_41 : decode cX5_owners 41 = .ok (.getfield 13, 3) := by decide +kernel
theorem dX5_owners_44 : decode cX5_owners 44 = .ok (.iload_n 3, 1) := by decide +kernel
theorem dX5_owners_45 : decode cX5_owners 45 = .ok (.iaload, 1) := by decide +kernel
theorem dX5_owners_46 : decode cX5_owners 46 = .ok (.ishl, 1) := by decide +kernel
theorem dX5_owners_47 : decode cX5_owners 47 = .ok (.ior, 1) := by decide +kernel
theorem dX5_owners_48 : decode cX5_owners 48 = .ok (.istore_n 2, 1) := by decide +kernel
theorem dX5_owners_49 : decode cX5_owners 49 = .ok (.iinc 3 1, 3) := by decide +kernel
theorem dX5_owners_52 : decode cX5_owners 52 = .ok (.goto (-38), 3) := by decide +kernel
theorem dX5_owners_55 : decode cX5_owners 55 = .ok (.iload_n 2, 1) := by decide +kernel
theorem dX5_owners_56 : decode cX5_owners 56 = .ok (.ireturn, 1) := by decide +kernel
theorem dX5_dependents_0 : decode cX5_dependents 0 = .ok (.aload_n 0, 1) := by decide +kernel
theorem dX5_dependents_1 : decode cX5_dependents 1 = .ok (.iload_n 1, 1) := by decide +kernel
theorem dX5_dependents_2 : decode cX5_dependents 2 = .ok (.invokestatic 123, 3) := by decide +kernel
theorem dX5_dependents_5 : decode cX5_dependents 5 = .ok (.ifCond .eq 7, 3) := by decide +kernel
theorem dX5_dependents_8 : decode cX5_dependents 8 = .ok (.iconst 1, 1) := by decide +kernel
theorem dX5_dependents_9 : decode cX5_dependents 9 = .ok (.goto 4, 3) := by decide +kernel
theorem dX5_dependents_12 : decode cX5_dependents 12 = .ok (.iconst 0, 1) := by decide +kernel
theorem dX5_dependents_13 : decode cX5_dependents 13 = .ok (.invokevirtual 119, 3) := by decide +kernel
theorem dX5_dependents_16 : decode cX5_dependents 16 = .ok (.ifCond .eq 5, 3) := by decide +kernel
theorem dX5_dependents_19 : decode cX5_dependents 19 = .ok (.iconst 0, 1) := by decide +kernel
theorem dX5_dependents_20 : decode cX5_dependents 20 = .ok (.ireturn, 1) := by decide +kernel
theorem dX5_dependents_21 : decode cX5_dependents 21 = .ok (.iconst 0, 1) := by decide +kernel
theorem dX5_dependents_22 : decode cX5_dependents 22 = .ok (.istore_n 2, 1) := by decide +kernel
theorem dX5_dependents_23 : decode cX5_dependents 23 = .ok (.iconst 0, 1) := by decide +kernel
theorem dX5_dependents_24 : decode cX5_dependents 24 = .ok (.istore_n 3, 1) := by decide +kernel
theorem dX5_dependents_25 : decode cX5_dependents 25 = .ok (.iload_n 3, 1) := by decide +kernel
theorem dX5_dependents_26 : decode cX5_dependents 26 = .ok (.aload_n 0, 1) := by decide +kernel
theorem dX5_dependents_27 : decode cX5_dependents 27 = .ok (.getfield 116, 3) := by decide +kernel
theorem dX5_dependents_30 : decode cX5_dependents 30 = .ok (.if_icmp .ge 26, 3) := by decide +kernel
theorem dX5_dependents_33 : decode cX5_dependents 33 = .ok (.iload_n 2, 1) := by decide +kernel
theorem dX5_dependents_34 : decode cX5_dependents 34 = .ok (.aload_n 0, 1) := by decide +kernel
theorem dX5_dependents_35 : decode cX5_dependents 35 = .ok (.iload_n 3, 1) := by decide +kernel
theorem dX5_dependents_36 : decode cX5_dependents 36 = .ok (.iload_n 1, 1) := by decide +kernel
theorem dX5_dependents_37 : decode cX5_dependents 37 = .ok (.invokevirtual 224, 3) := by decide +kernel
theorem dX5_dependents_40 : decode cX5_dependents 40 = .ok (.ifCond .eq 7, 3) := by decide +kernel
theorem dX5_dependents_43 : decode cX5_dependents 43 = .ok (.iconst 1, 1) := by decide +kernel
theorem dX5_dependents_44 : decode cX5_dependents 44 = .ok (.goto 4, 3) := by decide +kernel
theorem dX5_dependents_47 : decode cX5_dependents 47 = .ok (.iconst 0, 1) := by decide +kernel
theorem dX5_dependents_48 : decode cX5_dependents 48 = .ok (.iadd, 1) := by decide +kernel
theorem dX5_dependents_49 : decode cX5_dependents 49 = .ok (.istore_n 2, 1) := by decide +kernel
theorem dX5_dependents_50 : decode cX5_dependents 50 = .ok (.iinc 3 1, 3) := by decide +kernel
theorem dX5_dependents_53 : decode cX5_dependents 53 = .ok (.goto (-28), 3) := by decide +kernel
theorem dX5_dependents_56 : decode cX5_dependents 56 = .ok (.iload_n 2, 1) := by decide +kernel
theorem dX5_dependents_57 : decode cX5_dependents 57 = .ok (.ireturn, 1) := by decide +kernel
theorem dX5_addKernel_0 : decode cX5_addKernel 0 = .ok (.aload_n 0, 1) := by decide +kernel
theorem dX5_addKernel_1 : decode cX5_addKernel 1 = .ok (.iload_n 1, 1) := by decide +kernel
theorem dX5_addKernel_2 : decode cX5_addKernel 2 = .ok (.iconst 1, 1) := by decide +kernel
theorem dX5_addKernel_3 : decode cX5_addKernel 3 = .ok (.bipush 20, 2) := by decide +kernel
theorem dX5_addKernel_5 : decode cX5_addKernel 5 = .ok (.invokestatic 112, 3) := by decide +kernel
theorem dX5_addKernel_8 : decode cX5_addKernel 8 = .ok (.ifCond .ne 7, 3) := by decide +kernel
theorem dX5_addKernel_11 : decode cX5_addKernel 11 = .ok (.iconst 1, 1) := by decide +kernel
theorem dX5_addKernel_12 : decode cX5_addKernel 12 = .ok (.goto 16, 3) := by decide +kernel
theorem dX5_addKernel_15 : decode cX5_addKernel 15 = .ok (.aload_n 0, 1) := by decide +kernel
theorem dX5_addKernel_16 : decode cX5_addKernel 16 = .ok (.getfield 171, 3) := by decide +kernel
theorem dX5_addKernel_19 : decode cX5_addKernel 19 = .ok (.iconst 3, 1) := by decide +kernel
theorem dX5_addKernel_20 : decode cX5_addKernel 20 = .ok (.if_icmp .ne 7, 3) := by decide +kernel
theorem dX5_addKernel_23 : decode cX5_addKernel 23 = .ok (.iconst 2, 1) := by decide +kernel
theorem dX5_addKernel_24 : decode cX5_addKernel 24 = .ok (.goto 4, 3) := by decide +kernel
theorem dX5_addKernel_27 : decode cX5_addKernel 27 = .ok (.iconst 0, 1) := by decide +kernel
theorem dX5_addKernel_28 : decode cX5_addKernel 28 = .ok (.invokevirtual 119, 3) := by decide +kernel
theorem dX5_addKernel_31 : decode cX5_addKernel 31 = .ok (.ifCond .eq 5, 3) := by decide +kernel
theorem dX5_addKernel_34 : decode cX5_addKernel 34 = .ok (.iconst 0, 1) := by decide +kernel
