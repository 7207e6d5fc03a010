theorem dX4_kernelsAreRight_7 : decode cX4_kernelsAreRight 7 = .ok (.if_icmp .ge 36, 3) := by decide +kernel
theorem dX4_kernelsAreRight_10 : decode cX4_kernelsAreRight 10 = .ok (.aload_n 0, 1) := by decide +kernel
theorem dX4_kernelsAreRight_11 : decode cX4_kernelsAreRight 11 = .ok (.getfield 30, 3) := by decide +kernel
theorem dX4_kernelsAreRight_14 : decode cX4_kernelsAreRight 14 = .ok (.iload_n 1, 1) := by decide +kernel
theorem dX4_kernelsAreRight_15 : decode cX4_kernelsAreRight 15 = .ok (.aaload, 1) := by decide +kernel
theorem dX4_kernelsAreRight_16 : decode cX4_kernelsAreRight 16 = .ok (.getfield 236, 3) := by decide +kernel
theorem dX4_kernelsAreRight_19 : decode cX4_kernelsAreRight 19 = .ok (.iconst 0, 1) := by decide +kernel
theorem dX4_kernelsAreRight_20 : decode cX4_kernelsAreRight 20 = .ok (.aload_n 0, 1) := by decide +kernel
theorem dX4_kernelsAreRight_21 : decode cX4_kernelsAreRight 21 = .ok (.getfield 30, 3) := by decide +kernel
theorem dX4_kernelsAreRight_24 : decode cX4_kernelsAreRight 24 = .ok (.iload_n 1, 1) := by decide +kernel
theorem dX4_kernelsAreRight_25 : decode cX4_kernelsAreRight 25 = .ok (.aaload, 1) := by decide +kernel
theorem dX4_kernelsAreRight_26 : decode cX4_kernelsAreRight 26 = .ok (.getfield 203, 3) := by decide +kernel
theorem dX4_kernelsAreRight_29 : decode cX4_kernelsAreRight 29 = .ok (.invokestatic 46, 3) := by decide +kernel
theorem dX4_kernelsAreRight_32 : decode cX4_kernelsAreRight 32 = .ok (.ifCond .ne 5, 3) := by decide +kernel
theorem dX4_kernelsAreRight_35 : decode cX4_kernelsAreRight 35 = .ok (.iconst 0, 1) := by decide +kernel
theorem dX4_kernelsAreRight_36 : decode cX4_kernelsAreRight 36 = .ok (.ireturn, 1) := by decide +kernel
theorem dX4_kernelsAreRight_37 : decode cX4_kernelsAreRight 37 = .ok (.iinc 1 1, 3) := by decide +kernel
theorem dX4_kernelsAreRight_40 : decode cX4_kernelsAreRight 40 = .ok (.goto (-38), 3) := by decide +kernel
theorem dX4_kernelsAreRight_43 : decode cX4_kernelsAreRight 43 = .ok (.iconst 1, 1) := by decide +kernel
theorem dX4_kernelsAreRight_44 : decode cX4_kernelsAreRight 44 = .ok (.ireturn, 1) := by decide +kernel
theorem dX4_failuresAreRight_0 : decode cX4_failuresAreRight 0 = .ok (.iconst 0, 1) := by decide +kernel
theorem dX4_failuresAreRight_1 : decode cX4_failuresAreRight 1 = .ok (.istore_n 1, 1) := by decide +kernel
theorem dX4_failuresAreRight_2 : decode cX4_failuresAreRight 2 = .ok (.iload_n 1, 1) := by decide +kernel
theorem dX4_failuresAreRight_3 : decode cX4_failuresAreRight 3 = .ok (.aload_n 0, 1) := by decide +kernel
theorem dX4_failuresAreRight_4 : decode cX4_failuresAreRight 4 = .ok (.getfield 91, 3) := by decide +kernel
theorem dX4_failuresAreRight_7 : decode cX4_failuresAreRight 7 = .ok (.if_icmp .ge 45, 3) := by decide +kernel
theorem dX4_failuresAreRight_10 : decode cX4_failuresAreRight 10 = .ok (.aload_n 0, 1) := by decide +kernel
theorem dX4_failuresAreRight_11 : decode cX4_failuresAreRight 11 = .ok (.getfield 24, 3) := by decide +kernel
theorem dX4_failuresAreRight_14 : decode cX4_failuresAreRight 14 = .ok (.iload_n 1, 1) := by decide +kernel
theorem dX4_failuresAreRight_15 : decode cX4_failuresAreRight 15 = .ok (.aaload, 1) := by decide +kernel
theorem dX4_failuresAreRight_16 : decode cX4_failuresAreRight 16 = .ok (.astore_n 2, 1) := by decide +kernel
theorem dX4_failuresAreRight_17 : decode cX4_failuresAreRight 17 = .ok (.aload_n 2, 1) := by decide +kernel
theorem dX4_failuresAreRight_18 : decode cX4_failuresAreRight 18 = .ok (.getfield 152, 3) := by decide +kernel
theorem dX4_failuresAreRight_21 : decode cX4_failuresAreRight 21 = .ok (.iconst 2, 1) := by decide +kernel
theorem dX4_failuresAreRight_22 : decode cX4_failuresAreRight 22 = .ok (.if_icmp .ne 24, 3) := by decide +kernel
theorem dX4_failuresAreRight_25 : decode cX4_failuresAreRight 25 = .ok (.aload_n 2, 1) := by decide +kernel
theorem dX4_failuresAreRight_26 : decode cX4_failuresAreRight 26 = .ok (.getfield 274, 3) := by decide +kernel
theorem dX4_failuresAreRight_29 : decode cX4_failuresAreRight 29 = .ok (.getfield 186, 3) := by decide +kernel
theorem dX4_failuresAreRight_32 : decode cX4_failuresAreRight 32 = .ok (.iload_n 1, 1) := by decide +kernel
theorem dX4_failuresAreRight_33 : decode cX4_failuresAreRight 33 = .ok (.aload_n 2, 1) := by decide +kernel
theorem dX4_failuresAreRight_34 : decode cX4_failuresAreRight 34 = .ok (.getfield 274, 3) := by decide +kernel
theorem dX4_failuresAreRight_37 : decode cX4_failuresAreRight 37 = .ok (.getfield 180, 3) := by decide +kernel
theorem dX4_failuresAreRight_40 : decode cX4_failuresAreRight 40 = .ok (.isub, 1) := by decide +kernel
theorem dX4_failuresAreRight_41 : decode cX4_failuresAreRight 41 = .ok (.if_icmp .le 5, 3) := by decide +kernel
theorem dX4_failuresAreRight_44 : decode cX4_failuresAreRight 44 = .ok (.iconst 0, 1) := by decide +kernel
theorem dX4_failuresAreRight_45 : decode cX4_failuresAreRight 45 = .ok (.ireturn, 1) := by decide +kernel
theorem dX4_failuresAreRight_46 : decode cX4_failuresAreRight 46 = .ok (.iinc 1 1, 3) := by decide +kernel
theorem dX4_failuresAreRight_49 : decode cX4_failuresAreRight 49 = .ok (.goto (-47), 3) := by decide +kernel
theorem dX4_failuresAreRight_52 : decode cX4_failuresAreRight 52 = .ok (.iconst 1, 1) := by decide +kernel
theorem dX4_failuresAreRight_53 : decode cX4_failuresAreRight 53 = .ok (.ireturn, 1) := by decide +kernel
theorem dX5_init_0 : decode cX5_init 0 = .ok (.aload_n 0, 1) := by decide +kernel
theorem dX5_init_1 : decode cX5_init 1 = .ok (.invokespecial 1, 3) := by decide +kernel
theorem dX5_init_4 : decode cX5_init 4 = .ok (.aload_n 0, 1) := by decide +kernel
theorem dX5_init_5 : decode cX5_init 5 = .ok (.bipush 12, 2) := by decide +kernel
theorem dX5_init_7 : decode cX5_init 7 = .ok (.newarray .boolean, 2) := by decide +kernel
theorem dX5_init_9 : decode cX5_init 9 = .ok (.putfield 7, 3) := by decide +kernel
theorem dX5_init_12 : decode cX5_init 12 = .ok (.aload_n 0, 1) := by decide +kernel
theorem dX5_init_13 : decode cX5_init 13 = .ok (.bipush 12, 2) := by decide +kernel
theorem dX5_init_15 : decode cX5_init 15 = .ok (.newarray .int, 2) := by decide +kernel
theorem dX5_init_17 : decode cX5_init 17 = .ok (.putfield 13, 3) := by decide +kernel
theorem dX5_init_20 : decode cX5_init 20 = .ok (.aload_n 0, 1) := by decide +kernel
theorem dX5_init_21 : decode cX5_init 21 = .ok (.bipush 12, 2) := by decide +kernel
theorem dX5_init_23 : decode cX5_init 23 = .ok (.newarray .int, 2) := by decide +kernel
theorem dX5_init_25 : decode cX5_init 25 = .ok (.dup, 1) := by decide +kernel
theorem dX5_init_26 : decode cX5_init 26 = .ok (.iconst 0, 1) := by decide +kernel
theorem dX5_init_27 : decode cX5_init 27 = .ok (.iconst (-1), 1) := by decide +kernel
theorem dX5_init_28 : decode cX5_init 28 = .ok (.iastore, 1) := by decide +kernel
theorem dX5_init_29 : decode cX5_init 29 = .ok (.dup, 1) := by decide +kernel
theorem dX5_init_30 : decode cX5_init 30 = .ok (.iconst 1, 1) := by decide +kernel
theorem dX5_init_31 : decode cX5_init 31 = .ok (.iconst (-1), 1) := by decide +kernel
theorem dX5_init_32 : decode cX5_init 32 = .ok (.iastore, 1) := by decide +kernel
theorem dX5_init_33 : decode cX5_init 33 = .ok (.dup, 1) := by decide +kernel
theorem dX5_init_34 : decode cX5_init 34 = .ok (.iconst 2, 1) := by decide +kernel
theorem dX5_init_35 : decode cX5_init 35 = .ok (.iconst (-1), 1) := by decide +kernel
theorem dX5_init_36 : decode cX5_init 36 = .ok (.iastore, 1) := by decide +kernel
theorem dX5_init_37 : decode cX5_init 37 = .ok (.dup, 1) := by decide +kernel
theorem dX5_init_38 : decode cX5_init 38 = .ok (.iconst 3, 1) := by decide +kernel
theorem dX5_init_39 : decode cX5_init 39 = .ok (.iconst (-1), 1) := by decide +kernel
theorem dX5_init_40 : decode cX5_init 40 = .ok (.iastore, 1) := by decide +kernel
theorem dX5_init_41 : decode cX5_init 41 = .ok (.dup, 1) := by decide +kernel
theorem dX5_init_42 : decode cX5_init 42 = .ok (.iconst 4, 1) := by decide +kernel
theorem dX5_init_43 : decode cX5_init 43 = .ok (.iconst (-1), 1) := by decide +kernel
theorem dX5_init_44 : decode cX5_init 44 = .ok (.iastore, 1) := by decide +kernel
theorem dX5_init_45 : decode cX5_init 45 = .ok (.dup, 1) := by decide +kernel
theorem dX5_init_46 : decode cX5_init 46 = .ok (.iconst 5, 1) := by decide +kernel
theorem dX5_init_47 : decode cX5_init 47 = .ok (.iconst (-1), 1) := by decide +kernel
theorem dX5_init_48 : decode cX5_init 48 = .ok (.iastore, 1) := by decide +kernel
theorem dX5_init_49 : decode cX5_init 49 = .ok (.dup, 1) := by decide +kernel
theorem dX5_init_50 : decode cX5_init 50 = .ok (.bipush 6, 2) := by decide +kernel
theorem dX5_init_52 : decode cX5_init 52 = .ok (.iconst (-1), 1) := by decide +kernel
theorem dX5_init_53 : decode cX5_init 53 = .ok (.iastore, 1) := by decide +kernel
theorem dX5_init_54 : decode cX5_init 54 = .ok (.dup, 1) := by decide +kernel
theorem dX5_init_55 : decode cX5_init 55 = .ok (.bipush 7, 2) := by decide +kernel
theorem dX5_init_57 : decode cX5_init 57 = .ok (.iconst (-1), 1) := by decide +kernel
theorem dX5_init_58 : decode cX5_init 58 = .ok (.iastore, 1) := by decide +kernel
theorem dX5_init_59 : decode cX5_init 59 = .ok (.dup, 1) := by decide +kernel
theorem dX5_init_60 : decode cX5_init 60 = .ok (.bipush 8, 2) := by decide +kernel
theorem dX5_init_62 : decode cX5_init 62 = .ok (.iconst (-1), 1) := by decide +kernel
theorem dX5_init_63 : decode cX5_init 63 = .ok (.iastore, 1) := by decide +kernel
theorem dX5_init_64 : decode cX5_init 64 = .ok (.dup, 1) := by decide +kernel
theorem dX5_init_65 : decode cX5_init 65 = .ok (.bipush 9, 2) := by decide +kernel
theorem dX5_init_67 : decode cX5_init 67 = .ok (.iconst (-1), 1) := by decide +kernel
theorem dX5_init_68 : decode cX5_init 68 = .ok (.iastore, 1) := by decide +kernel
theorem dX5_init_69 : decode cX5_init 69 = .ok (.dup, 1) := by decide +kernel
theorem dX5_init_70 : decode cX5_init 70 = .ok (.bipush 10, 2) := by decide +kernel
theorem dX5_init_72 : decode cX5_init 72 = .ok (.iconst (-1), 1) := by decide +kernel
theorem dX5_init_73 : decode cX5_init 73 = .ok (.iastore, 1) := by decide +kernel
theorem dX5_init_74 : decode cX5_init 74 = .ok (.dup, 1) := by decide +kernel
theorem dX5_init_75 : decode cX5_init 75 = .ok (.bipush 11, 2) := by decide +kernel
theorem dX5_init_77 : decode cX5_init 77 = .ok (.iconst (-1), 1) := by decide +kernel
theorem dX5_init_78 : decode cX5_init 78 = .ok (.iastore, 1) := by decide +kernel
theorem dX5_init_79 : decode cX5_init 79 = .ok (.putfield 17, 3) := by decide +kernel
theorem dX5_init_82 : decode cX5_init 82 = .ok (.aload_n 0, 1) := by decide +kernel
theorem dX5_init_83 : decode cX5_init 83 = .ok (.bipush 12, 2) := by decide +kernel
theorem dX5_init_85 : decode cX5_init 85 = .ok (.newarray .int, 2) := by decide +kernel
theorem dX5_init_87 : decode cX5_init 87 = .ok (.dup, 1) := by decide +kernel
theorem dX5_init_88 : decode cX5_init 88 = .ok (.iconst 0, 1) := by decide +kernel
theorem dX5_init_89 : decode cX5_init 89 = .ok (.iconst (-1), 1) := by decide +kernel
theorem dX5_init_90 : decode cX5_init 90 = .ok (.iastore, 1) := by decide +kernel
theorem dX5_init_91 : decode cX5_init 91 = .ok (.dup, 1) := by decide +kernel
theorem dX5_init_92 : decode cX5_init 92 = .ok (.iconst 1, 1) := by decide +kernel
theorem dX5_init_93 : decode cX5_init 93 = .ok (.iconst (-1), 1) := by decide +kernel
theorem dX5_init_94 : decode cX5_init 94 = .ok (.iastore, 1) := by decide +kernel
theorem dX5_init_95 : decode cX5_init 95 = .ok (.dup, 1) := by decide +kernel
theorem dX5_init_96 : decode cX5_init 96 = .ok (.iconst 2, 1) := by decide +kernel
theorem dX5_init_97 : decode cX5_init 97 = .ok (.iconst (-1), 1) := by decide +kernel
theorem dX5_init_98 : decode cX5_init 98 = .ok (.iastore, 1) := by decide +kernel
theorem dX5_init_99 : decode cX5_init 99 = .ok (.dup, 1) := by decide +kernel
theorem dX5_init_100 : decode cX5_init 100 = .ok (.iconst 3, 1) := by decide +kernel
theorem dX5_init_101 : decode cX5_init 101 = .ok (.iconst (-1), 1) := by decide +kernel
theorem dX5_init_102 : decode cX5_init 102 = .ok (.iastore, 1) := by decide +kernel
theorem dX5_init_103 : decode cX5_init 103 = .ok (.dup, 1) := by decide +kernel
theorem dX5_init_104 : decode cX5_init 104 = .ok (.iconst 4, 1) := by decide +kernel
theorem dX5_init_105 : decode cX5_init 105 = .ok (.iconst (-1), 1) := by decide +kernel
theorem dX5_init_106 : decode cX5_init 106 = .ok (.iastore, 1) := by decide +kernel
theorem dX5_init_107 : decode cX5_init 107 = .ok (.dup, 1) := by decide +kernel
theorem dX5_init_108 : decode cX5_init 108 = .ok (.iconst 5, 1) := by decide +kernel
theorem dX5_init_109 : decode cX5_init 109 = .ok (.iconst (-1), 1) := by decide +kernel
theorem dX5_init_110 : decode cX5_init 110 = .ok (.iastore, 1) := by decide +kernel
theorem dX5_init_111 : decode cX5_init 111 = .ok (.dup, 1) := by decide +kernel
theorem dX5_init_112 : decode cX5_init 112 = .ok (.bipush 6, 2) := by decide +kernel
theorem dX5_init_114 : decode cX5_init 114 = .ok (.iconst (-1), 1) := by decide +kernel
theorem dX5_init_115 : decode cX5_init 115 = .ok (.iastore, 1) := by decide +kernel
theorem dX5_init_116 : decode cX5_init 116 = .ok (.dup, 1) := by decide +kernel
theorem dX5_init_117 : decode cX5_init 117 = .ok (.bipush 7, 2) := by decide +kernel
theorem dX5_init_119 : decode cX5_init 119 = .ok (.iconst (-1), 1) := by decide +kernel
theorem dX5_init_120 : decode cX5_init 120 = .ok (.iastore, 1) := by decide +kernel
theorem dX5_init_121 : decode cX5_init 121 = .ok (.dup, 1) := by decide +kernel
theorem dX5_init_122 : decode cX5_init 122 = .ok (.bipush 8, 2) := by decide +kernel
theorem dX5_init_124 : decode cX5_init 124 = .ok (.iconst (-1), 1) := by decide +kernel
theorem dX5_init_125 : decode cX5_init 125 = .ok (.iastore, 1) := by decide +kernel
theorem dX5_init_126 : decode cX5_init 126 = .ok (.dup, 1) := by decide +kernel
theorem dX5_init_127 : decode cX5_init 127 = .ok (.bipush 9, 2) := by decide +kernel
theorem dX5_init_129 : decode cX5_init 129 = .ok (.iconst (-1), 1) := by decide +kernel
theorem dX5_init_130 : decode cX5_init 130 = .ok (.iastore, 1) := by decide +kernel
theorem dX5_init_131 : decode cX5_init 131 = .ok (.dup, 1) := by decide +kernel
theorem dX5_init_132 : decode cX5_init 132 = .ok (.bipush 10, 2) := by decide +kernel
theorem dX5_init_134 : decode cX5_init 134 = .ok (.iconst (-1), 1) := by decide +kernel
theorem dX5_init_135 : decode cX5_init 135 = .ok (.iastore, 1) := by decide +kernel
theorem dX5_init_136 : decode cX5_init 136 = .ok (.dup, 1) := by decide +kernel
theorem dX5_init_137 : decode cX5_init 137 = .ok (.bipush 11, 2) := by decide +kernel
theorem dX5_init_139 : decode cX5_init 139 = .ok (.iconst (-1), 1) := by decide +kernel
theorem dX5_init_140 : decode cX5_init 140 = .ok (.iastore, 1) := by decide +kernel
theorem dX5_init_141 : decode cX5_init 141 = .ok (.putfield 20, 3) := by decide +kernel
theorem dX5_init_144 : decode cX5_init 144 = .ok (.aload_n 0, 1) := by decide +kernel
theorem dX5_init_145 : decode cX5_init 145 = .ok (.bipush 16, 2) := by decide +kernel
theorem dX5_init_147 : decode cX5_init 147 = .ok (.newarray .char, 2) := by decide +kernel
theorem dX5_init_149 : decode cX5_init 149 = .ok (.putfield 23, 3) := by decide +kernel
theorem dX5_init_152 : decode cX5_init 152 = .ok (.aload_n 0, 1) := by decide +kernel
theorem dX5_init_153 : decode cX5_init 153 = .ok (.bipush 16, 2) := by decide +kernel
theorem dX5_init_155 : decode cX5_init 155 = .ok (.newarray .int, 2) := by decide +kernel
theorem dX5_init_157 : decode cX5_init 157 = .ok (.putfield 27, 3) := by decide +kernel
theorem dX5_init_160 : decode cX5_init 160 = .ok (.aload_n 0, 1) := by decide +kernel
theorem dX5_init_161 : decode cX5_init 161 = .ok (.bipush 16, 2) := by decide +kernel
theorem dX5_init_163 : decode cX5_init 163 = .ok (.newarray .int, 2) := by decide +kernel
theorem dX5_init_165 : decode cX5_init 165 = .ok (.putfield 30, 3) := by decide +kernel
theorem dX5_init_168 : decode cX5_init 168 = .ok (.aload_n 0, 1) := by decide +kernel
theorem dX5_init_169 : decode cX5_init 169 = .ok (.bipush 16, 2) := by decide +kernel
theorem dX5_init_171 : decode cX5_init 171 = .ok (.newarray .int, 2) := by decide +kernel
theorem dX5_init_173 : decode cX5_init 173 = .ok (.putfield 33, 3) := by decide +kernel
theorem dX5_init_176 : decode cX5_init 176 = .ok (.aload_n 0, 1) := by decide +kernel
theorem dX5_init_177 : decode cX5_init 177 = .ok (.bipush 16, 2) := by decide +kernel
theorem dX5_init_179 : decode cX5_init 179 = .ok (.newarray .int, 2) := by decide +kernel
theorem dX5_init_181 : decode cX5_init 181 = .ok (.putfield 36, 3) := by decide +kernel
theorem dX5_init_184 : decode cX5_init 184 = .ok (.aload_n 0, 1) := by decide +kernel
theorem dX5_init_185 : decode cX5_init 185 = .ok (.bipush 16, 2) := by decide +kernel
theorem dX5_init_187 : decode cX5_init 187 = .ok (.newarray .int, 2) := by decide +kernel
theorem dX5_init_189 : decode cX5_init 189 = .ok (.putfield 39, 3) := by decide +kernel
theorem dX5_init_192 : decode cX5_init 192 = .ok (.aload_n 0, 1) := by decide +kernel
theorem dX5_init_193 : decode cX5_init 193 = .ok (.bipush 16, 2) := by decide +kernel
theorem dX5_init_195 : decode cX5_init 195 = .ok (.newarray .int, 2) := by decide +kernel
theorem dX5_init_197 : decode cX5_init 197 = .ok (.putfield 42, 3) := by decide +kernel
theorem dX5_init_200 : decode cX5_init 200 = .ok (.aload_n 0, 1) := by decide +kernel
theorem dX5_init_201 : decode cX5_init 201 = .ok (.bipush 16, 2) := by decide +kernel
theorem dX5_init_203 : decode cX5_init 203 = .ok (.newarray .int, 2) := by decide +kernel
theorem dX5_init_205 : decode cX5_init 205 = .ok (.putfield 45, 3) := by decide +kernel
theorem dX5_init_208 : decode cX5_init 208 = .ok (.aload_n 0, 1) := by decide +kernel
theorem dX5_init_209 : decode cX5_init 209 = .ok (.bipush 16, 2) := by decide +kernel
theorem dX5_init_211 : decode cX5_init 211 = .ok (.newarray .char, 2) := by decide +kernel
theorem dX5_init_213 : decode cX5_init 213 = .ok (.dup, 1) := by decide +kernel
theorem dX5_init_214 : decode cX5_init 214 = .ok (.iconst 0, 1) := by decide +kernel
theorem dX5_init_215 : decode cX5_init 215 = .ok (.bipush 110, 2) := by decide +kernel
theorem dX5_init_217 : decode cX5_init 217 = .ok (.castore, 1) := by decide +kernel
theorem dX5_init_218 : decode cX5_init 218 = .ok (.dup, 1) := by decide +kernel
theorem dX5_init_219 : decode cX5_init 219 = .ok (.iconst 1, 1) := by decide +kernel
theorem dX5_init_220 : decode cX5_init 220 = .ok (.bipush 110, 2) := by decide +kernel
theorem dX5_init_222 : decode cX5_init 222 = .ok (.castore, 1) := by decide +kernel
theorem dX5_init_223 : decode cX5_init 223 = .ok (.dup, 1) := by decide +kernel
theorem dX5_init_224 : decode cX5_init 224 = .ok (.iconst 2, 1) := by decide +kernel
theorem dX5_init_225 : decode cX5_init 225 = .ok (.bipush 110, 2) := by decide +kernel
theorem dX5_init_227 : decode cX5_init 227 = .ok (.castore, 1) := by decide +kernel
theorem dX5_init_228 : decode cX5_init 228 = .ok (.dup, 1) := by decide +kernel
theorem dX5_init_229 : decode cX5_init 229 = .ok (.iconst 3, 1) := by decide +kernel
theorem dX5_init_230 : decode cX5_init 230 = .ok (.bipush 110, 2) := by decide +kernel
theorem dX5_init_232 : decode cX5_init 232 = .ok (.castore, 1) := by decide +kernel
theorem dX5_init_233 : decode cX5_init 233 = .ok (.dup, 1) := by decide +kernel
theorem dX5_init_234 : decode cX5_init 234 = .ok (.iconst 4, 1) := by decide +kernel
theorem dX5_init_235 : decode cX5_init 235 = .ok (.bipush 110, 2) := by decide +kernel
theorem dX5_init_237 : decode cX5_init 237 = .ok (.castore, 1) := by decide +kernel
theorem dX5_init_238 : decode cX5_init 238 = .ok (.dup, 1) := by decide +kernel
theorem dX5_init_239 : decode cX5_init 239 = .ok (.iconst 5, 1) := by decide +kernel
theorem dX5_init_240 : decode cX5_init 240 = .ok (.bipush 110, 2) := by decide +kernel
theorem dX5_init_242 : decode cX5_init 242 = .ok (.castore, 1) := by decide +kernel
theorem dX5_init_243 : decode cX5_init 243 = .ok (.dup, 1) := by decide +kernel
theorem dX5_init_244 : decode cX5_init 244 = .ok (.bipush 6, 2) := by decide +kernel
theorem dX5_init_246 : decode cX5_init 246 = .ok (.bipush 110, 2) := by decide +kernel
theorem dX5_init_248 : decode cX5_init 248 = .ok (.castore, 1) := by decide +kernel
theorem dX5_init_249 : decode cX5_init 249 = .ok (.dup, 1) := by decide +kernel
theorem dX5_init_250 : decode cX5_init 250 = .ok (.bipush 7, 2) := by decide +kernel
theorem dX5_init_252 : decode cX5_init 252 = .ok (.bipush 110, 2) := by decide +kernel
theorem dX5_init_254 : decode cX5_init 254 = .ok (.castore, 1) := by decide +kernel
theorem dX5_init_255 : decode cX5_init 255 = .ok (.dup, 1) := by decide +kernel
theorem dX5_init_256 : decode cX5_init 256 = .ok (.bipush 8, 2) := by decide +kernel
theorem dX5_init_258 : decode cX5_init 258 = .ok (.bipush 110, 2) := by decide +kernel
theorem dX5_init_260 : decode cX5_init 260 = .ok (.castore, 1) := by decide +kernel
theorem dX5_init_261 : decode cX5_init 261 = .ok (.dup, 1) := by decide +kernel
theorem dX5_init_262 : decode cX5_init 262 = .ok (.bipush 9, 2) := by decide +kernel
theorem dX5_init_264 : decode cX5_init 264 = .ok (.bipush 110, 2) := by decide +kernel
theorem dX5_init_266 : decode cX5_init 266 = .ok (.castore, 1) := by decide +kernel
theorem dX5_init_267 : decode cX5_init 267 = .ok (.dup, 1) := by decide +kernel
theorem dX5_init_268 : decode cX5_init 268 = .ok (.bipush 10, 2) := by decide +kernel
theorem dX5_init_270 : decode cX5_init 270 = .ok (.bipush 110, 2) := by decide +kernel
theorem dX5_init_272 : decode cX5_init 272 = .ok (.castore, 1) := by decide +kernel
theorem dX5_init_273 : decode cX5_init 273 = .ok (.dup, 1) := by decide +kernel
theorem dX5_init_274 : decode cX5_init 274 = .ok (.bipush 11, 2) := by decide +kernel
theorem dX5_init_276 : decode cX5_init 276 = .ok (.bipush 110, 2) := by decide +kernel
theorem dX5_init_278 : decode cX5_init 278 = .ok (.castore, 1) := by decide +kernel
theorem dX5_init_279 : decode cX5_init 279 = .ok (.dup, 1) := by decide +kernel
theorem dX5_init_280 : decode cX5_init 280 = .ok (.bipush 12, 2) := by decide +kernel
theorem dX5_init_282 : decode cX5_init 282 = .ok (.bipush 110, 2) := by decide +kernel
theorem dX5_init_284 : decode cX5_init 284 = .ok (.castore, 1) := by decide +kernel
theorem dX5_init_285 : decode cX5_init 285 = .ok (.dup, 1) := by decide +kernel
theorem dX5_init_286 : decode cX5_init 286 = .ok (.bipush 13, 2) := by decide +kernel
theorem dX5_init_288 : decode cX5_init 288 = .ok (.bipush 110, 2) := by decide +kernel
theorem dX5_init_290 : decode cX5_init 290 = .ok (.castore, 1) := by decide +kernel
theorem dX5_init_291 : decode cX5_init 291 = .ok (.dup, 1) := by decide +kernel
theorem dX5_init_292 : decode cX5_init 292 = .ok (.bipush 14, 2) := by decide +kernel
theorem dX5_init_294 : decode cX5_init 294 = .ok (.bipush 110, 2) := by decide +kernel
theorem dX5_init_296 : decode cX5_init 296 = .ok (.castore, 1) := by decide +kernel
theorem dX5_init_297 : decode cX5_init 297 = .ok (.dup, 1) := by decide +kernel
theorem dX5_init_298 : decode cX5_init 298 = .ok (.bipush 15, 2) := by decide +kernel
theorem dX5_init_300 : decode cX5_init 300 = .ok (.bipush 110, 2) := by decide +kernel
theorem dX5_init_302 : decode cX5_init 302 = .ok (.castore, 1) := by decide +kernel
theorem dX5_init_303 : decode cX5_init 303 = .ok (.putfield 48, 3) := by decide +kernel
theorem dX5_init_306 : decode cX5_init 306 = .ok (.aload_n 0, 1) := by decide +kernel
theorem dX5_init_307 : decode cX5_init 307 = .ok (.bipush 16, 2) := by decide +kernel
theorem dX5_init_309 : decode cX5_init 309 = .ok (.newarray .int, 2) := by decide +kernel
theorem dX5_init_311 : decode cX5_init 311 = .ok (.putfield 51, 3) := by decide +kernel
theorem dX5_init_314 : decode cX5_init 314 = .ok (.aload_n 0, 1) := by decide +kernel
theorem dX5_init_315 : decode cX5_init 315 = .ok (.bipush 16, 2) := by decide +kernel
theorem dX5_init_317 : decode cX5_init 317 = .ok (.newarray .int, 2) := by decide +kernel
theorem dX5_init_319 : decode cX5_init 319 = .ok (.putfield 54, 3) := by decide +kernel
theorem dX5_init_322 : decode cX5_init 322 = .ok (.aload_n 0, 1) := by decide +kernel
theorem dX5_init_323 : decode cX5_init 323 = .ok (.bipush 16, 2) := by decide +kernel
theorem dX5_init_325 : decode cX5_init 325 = .ok (.newarray .int, 2) := by decide +kernel
theorem dX5_init_327 : decode cX5_init 327 = .ok (.putfield 57, 3) := by decide +kernel
theorem dX5_init_330 : decode cX5_init 330 = .ok (.aload_n 0, 1) := by decide +kernel
theorem dX5_init_331 : decode cX5_init 331 = .ok (.bipush 16, 2) := by decide +kernel
theorem dX5_init_333 : decode cX5_init 333 = .ok (.newarray .int, 2) := by decide +kernel
theorem dX5_init_335 : decode cX5_init 335 = .ok (.putfield 60, 3) := by decide +kernel
theorem dX5_init_338 : decode cX5_init 338 = .ok (.aload_n 0, 1) := by decide +kernel
theorem dX5_init_339 : decode cX5_init 339 = .ok (.bipush 16, 2) := by decide +kernel
theorem dX5_init_341 : decode cX5_init 341 = .ok (.newarray .int, 2) := by decide +kernel
theorem dX5_init_343 : decode cX5_init 343 = .ok (.putfield 63, 3) := by decide +kernel
theorem dX5_init_346 : decode cX5_init 346 = .ok (.aload_n 0, 1) := by decide +kernel
theorem dX5_init_347 : decode cX5_init 347 = .ok (.bipush 16, 2) := by decide +kernel
theorem dX5_init_349 : decode cX5_init 349 = .ok (.newarray .int, 2) := by decide +kernel
theorem dX5_init_351 : decode cX5_init 351 = .ok (.putfield 66, 3) := by decide +kernel
theorem dX5_init_354 : decode cX5_init 354 = .ok (.aload_n 0, 1) := by decide +kernel
theorem dX5_init_355 : decode cX5_init 355 = .ok (.bipush 16, 2) := by decide +kernel
theorem dX5_init_357 : decode cX5_init 357 = .ok (.newarray .char, 2) := by decide +kernel
theorem dX5_init_359 : decode cX5_init 359 = .ok (.putfield 69, 3) := by decide +kernel
theorem dX5_init_362 : decode cX5_init 362 = .ok (.aload_n 0, 1) := by decide +kernel
theorem dX5_init_363 : decode cX5_init 363 = .ok (.bipush 16, 2) := by decide +kernel
theorem dX5_init_365 : decode cX5_init 365 = .ok (.newarray .char, 2) := by decide +kernel
theorem dX5_init_367 : decode cX5_init 367 = .ok (.putfield 72, 3) := by decide +kernel
theorem dX5_init_370 : decode cX5_init 370 = .ok (.aload_n 0, 1) := by decide +kernel
theorem dX5_init_371 : decode cX5_init 371 = .ok (.bipush 16, 2) := by decide +kernel
theorem dX5_init_373 : decode cX5_init 373 = .ok (.newarray .int, 2) := by decide +kernel
theorem dX5_init_375 : decode cX5_init 375 = .ok (.putfield 75, 3) := by decide +kernel
theorem dX5_init_378 : decode cX5_init 378 = .ok (.aload_n 0, 1) := by decide +kernel
theorem dX5_init_379 : decode cX5_init 379 = .ok (.bipush 64, 2) := by decide +kernel
theorem dX5_init_381 : decode cX5_init 381 = .ok (.newarray .int, 2) := by decide +kernel
theorem dX5_init_383 : decode cX5_init 383 = .ok (.putfield 78, 3) := by decide +kernel
theorem dX5_init_386 : decode cX5_init 386 = .ok (.aload_n 0, 1) := by decide +kernel
theorem dX5_init_387 : decode cX5_init 387 = .ok (.bipush 64, 2) := by decide +kernel
theorem dX5_init_389 : decode cX5_init 389 = .ok (.newarray .int, 2) := by decide +kernel
theorem dX5_init_391 : decode cX5_init 391 = .ok (.putfield 81, 3) := by decide +kernel
theorem dX5_init_394 : decode cX5_init 394 = .ok (.aload_n 0, 1) := by decide +kernel
theorem dX5_init_395 : decode cX5_init 395 = .ok (.bipush 64, 2) := by decide +kernel
theorem dX5_init_397 : decode cX5_init 397 = .ok (.newarray .int, 2) := by decide +kernel
theorem dX5_init_399 : decode cX5_init 399 = .ok (.putfield 84, 3) := by decide +kernel
theorem dX5_init_402 : decode cX5_init 402 = .ok (.aload_n 0, 1) := by decide +kernel
theorem dX5_init_403 : decode cX5_init 403 = .ok (.bipush 64, 2) := by decide +kernel
theorem dX5_init_405 : decode cX5_init 405 = .ok (.newarray .int, 2) := by decide +kernel
theorem dX5_init_407 : decode cX5_init 407 = .ok (.putfield 87, 3) := by decide +kernel
theorem dX5_init_410 : decode cX5_init 410 = .ok (.aload_n 0, 1) := by decide +kernel
theorem dX5_init_411 : decode cX5_init 411 = .ok (.iconst 3, 1) := by decide +kernel
theorem dX5_init_412 : decode cX5_init 412 = .ok (.newarray .int, 2) := by decide +kernel
theorem dX5_init_414 : decode cX5_init 414 = .ok (.putfield 90, 3) := by decide +kernel
theorem dX5_init_417 : decode cX5_init 417 = .ok (.aload_n 0, 1) := by decide +kernel
theorem dX5_init_418 : decode cX5_init 418 = .ok (.bipush 60, 2) := by decide +kernel
theorem dX5_init_420 : decode cX5_init 420 = .ok (.newarray .int, 2) := by decide +kernel
theorem dX5_init_422 : decode cX5_init 422 = .ok (.putfield 93, 3) := by decide +kernel
theorem dX5_init_425 : decode cX5_init 425 = .ok (.aload_n 0, 1) := by decide +kernel
theorem dX5_init_426 : decode cX5_init 426 = .ok (.bipush 60, 2) := by decide +kernel
theorem dX5_init_428 : decode cX5_init 428 = .ok (.newarray .int, 2) := by decide +kernel
theorem dX5_init_430 : decode cX5_init 430 = .ok (.putfield 96, 3) := by decide +kernel
theorem dX5_init_433 : decode cX5_init 433 = .ok (.aload_n 0, 1) := by decide +kernel
theorem dX5_init_434 : decode cX5_init 434 = .ok (.bipush 60, 2) := by decide +kernel
theorem dX5_init_436 : decode cX5_init 436 = .ok (.newarray .int, 2) := by decide +kernel
theorem dX5_init_438 : decode cX5_init 438 = .ok (.putfield 99, 3) := by decide +kernel
theorem dX5_init_441 : decode cX5_init 441 = .ok (.aload_n 0, 1) := by decide +kernel
theorem dX5_init_442 : decode cX5_init 442 = .ok (.bipush 20, 2) := by decide +kernel
theorem dX5_init_444 : decode cX5_init 444 = .ok (.newarray .int, 2) := by decide +kernel
theorem dX5_init_446 : decode cX5_init 446 = .ok (.putfield 102, 3) := by decide +kernel
theorem dX5_init_449 : decode cX5_init 449 = .ok (.aload_n 0, 1) := by decide +kernel
theorem dX5_init_450 : decode cX5_init 450 = .ok (.bipush 20, 2) := by decide +kernel
theorem dX5_init_452 : decode cX5_init 452 = .ok (.newarray .int, 2) := by decide +kernel
theorem dX5_init_454 : decode cX5_init 454 = .ok (.putfield 105, 3) := by decide +kernel
theorem dX5_init_457 : decode cX5_init 457 = .ok (.return_, 1) := by decide +kernel
theorem dX5_thrown_0 : decode cX5_thrown 0 = .ok (.aload_n 0, 1) := by decide +kernel
theorem dX5_thrown_1 : decode cX5_thrown 1 = .ok (.getfield 108, 3) := by decide +kernel
theorem dX5_thrown_4 : decode cX5_thrown 4 = .ok (.ireturn, 1) := by decide +kernel
theorem dX5_fails_0 : decode cX5_fails 0 = .ok (.aload_n 0, 1) := by decide +kernel
theorem dX5_fails_1 : decode cX5_fails 1 = .ok (.iload_n 1, 1) := by decide +kernel
theorem dX5_fails_2 : decode cX5_fails 2 = .ok (.putfield 108, 3) := by decide +kernel
theorem dX5_fails_5 : decode cX5_fails 5 = .ok (.iload_n 1, 1) := by decide +kernel
theorem dX5_fails_6 : decode cX5_fails 6 = .ok (.ifCond .le 7, 3) := by decide +kernel
theorem dX5_fails_9 : decode cX5_fails 9 = .ok (.iconst 1, 1) := by decide +kernel
theorem dX5_fails_10 : decode cX5_fails 10 = .ok (.goto 4, 3) := by decide +kernel
theorem dX5_fails_13 : decode cX5_fails 13 = .ok (.iconst 0, 1) := by decide +kernel
theorem dX5_fails_14 : decode cX5_fails 14 = .ok (.ireturn, 1) := by decide +kernel
theorem dX5_tells_0 : decode cX5_tells 0 = .ok (.aload_n 0, 1) := by decide +kernel
theorem dX5_tells_1 : decode cX5_tells 1 = .ok (.iconst 0, 1) := by decide +kernel
theorem dX5_tells_2 : decode cX5_tells 2 = .ok (.putfield 108, 3) := by decide +kernel
theorem dX5_tells_5 : decode cX5_tells 5 = .ok (.iload_n 1, 1) := by decide +kernel
theorem dX5_tells_6 : decode cX5_tells 6 = .ok (.ireturn, 1) := by decide +kernel
theorem dX5_in_0 : decode cX5_in 0 = .ok (.iload_n 0, 1) := by decide +kernel
theorem dX5_in_1 : decode cX5_in 1 = .ok (.iload_n 1, 1) := by decide +kernel
theorem dX5_in_2 : decode cX5_in 2 = .ok (.if_icmp .lt 12, 3) := by decide +kernel
theorem dX5_in_5 : decode cX5_in 5 = .ok (.iload_n 0, 1) := by decide +kernel
theorem dX5_in_6 : decode cX5_in 6 = .ok (.iload_n 2, 1) := by decide +kernel
theorem dX5_in_7 : decode cX5_in 7 = .ok (.if_icmp .gt 7, 3) := by decide +kernel
theorem dX5_in_10 : decode cX5_in 10 = .ok (.iconst 1, 1) := by decide +kernel
theorem dX5_in_11 : decode cX5_in 11 = .ok (.goto 4, 3) := by decide +kernel
theorem dX5_in_14 : decode cX5_in 14 = .ok (.iconst 0, 1) := by decide +kernel
theorem dX5_in_15 : decode cX5_in 15 = .ok (.ireturn, 1) := by decide +kernel
theorem dX5_isNoVariable_0 : decode cX5_isNoVariable 0 = .ok (.iload_n 0, 1) := by decide +kernel
theorem dX5_isNoVariable_1 : decode cX5_isNoVariable 1 = .ok (.iconst 0, 1) := by decide +kernel
theorem dX5_isNoVariable_2 : decode cX5_isNoVariable 2 = .ok (.bipush 11, 2) := by decide +kernel
theorem dX5_isNoVariable_4 : decode cX5_isNoVariable 4 = .ok (.invokestatic 112, 3) := by decide +kernel
theorem dX5_isNoVariable_7 : decode cX5_isNoVariable 7 = .ok (.ifCond .ne 7, 3) := by decide +kernel
theorem dX5_isNoVariable_10 : decode cX5_isNoVariable 10 = .ok (.iconst 1, 1) := by decide +kernel
theorem dX5_isNoVariable_11 : decode cX5_isNoVariable 11 = .ok (.goto 4, 3) := by decide +kernel
theorem dX5_isNoVariable_14 : decode cX5_isNoVariable 14 = .ok (.iconst 0, 1) := by decide +kernel
theorem dX5_isNoVariable_15 : decode cX5_isNoVariable 15 = .ok (.ireturn, 1) := by decide +kernel
theorem dX5_isNoCell_0 : decode cX5_isNoCell 0 = .ok (.aload_n 0, 1) := by decide +kernel
theorem dX5_isNoCell_1 : decode cX5_isNoCell 1 = .ok (.iload_n 1, 1) := by decide +kernel
theorem dX5_isNoCell_2 : decode cX5_isNoCell 2 = .ok (.iconst 0, 1) := by decide +kernel
theorem dX5_isNoCell_3 : decode cX5_isNoCell 3 = .ok (.aload_n 0, 1) := by decide +kernel
theorem dX5_isNoCell_4 : decode cX5_isNoCell 4 = .ok (.getfield 116, 3) := by decide +kernel
theorem dX5_isNoCell_7 : decode cX5_isNoCell 7 = .ok (.iconst 1, 1) := by decide +kernel
theorem dX5_isNoCell_8 : decode cX5_isNoCell 8 = .ok (.isub, 1) := by decide +kernel
theorem dX5_isNoCell_9 : decode cX5_isNoCell 9 = .ok (.invokestatic 112, 3) := by decide +kernel
theorem dX5_isNoCell_12 : decode cX5_isNoCell 12 = .ok (.ifCond .eq 7, 3) := by decide +kernel
theorem dX5_isNoCell_15 : decode cX5_isNoCell 15 = .ok (.iconst 0, 1) := by decide +kernel
theorem dX5_isNoCell_16 : decode cX5_isNoCell 16 = .ok (.goto 4, 3) := by decide +kernel
theorem dX5_isNoCell_19 : decode cX5_isNoCell 19 = .ok (.iconst 1, 1) := by decide +kernel
theorem dX5_isNoCell_20 : decode cX5_isNoCell 20 = .ok (.invokevirtual 119, 3) := by decide +kernel
theorem dX5_isNoCell_23 : decode cX5_isNoCell 23 = .ok (.ireturn, 1) := by decide +kernel
theorem dX5_isThere_0 : decode cX5_isThere 0 = .ok (.aload_n 0, 1) := by decide +kernel
theorem dX5_isThere_1 : decode cX5_isThere 1 = .ok (.getfield 7, 3) := by decide +kernel
theorem dX5_isThere_4 : decode cX5_isThere 4 = .ok (.iload_n 1, 1) := by decide +kernel
theorem dX5_isThere_5 : decode cX5_isThere 5 = .ok (.baload, 1) := by decide +kernel
theorem dX5_isThere_6 : decode cX5_isThere 6 = .ok (.ifCond .ne 12, 3) := by decide +kernel
theorem dX5_isThere_9 : decode cX5_isThere 9 = .ok (.aload_n 0, 1) := by decide +kernel
theorem dX5_isThere_10 : decode cX5_isThere 10 = .ok (.getfield 20, 3) := by decide +kernel
theorem dX5_isThere_13 : decode cX5_isThere 13 = .ok (.iload_n 1, 1) := by decide +kernel
theorem dX5_isThere_14 : decode cX5_isThere 14 = .ok (.iaload, 1) := by decide +kernel
theorem dX5_isThere_15 : decode cX5_isThere 15 = .ok (.ifCond .lt 7, 3) := by decide +kernel
theorem dX5_isThere_18 : decode cX5_isThere 18 = .ok (.iconst 1, 1) := by decide +kernel
theorem dX5_isThere_19 : decode cX5_isThere 19 = .ok (.goto 4, 3) := by decide +kernel
theorem dX5_isThere_22 : decode cX5_isThere 22 = .ok (.iconst 0, 1) := by decide +kernel
theorem dX5_isThere_23 : decode cX5_isThere 23 = .ok (.ireturn, 1) := by decide +kernel
theorem dX5_addData_0 : decode cX5_addData 0 = .ok (.aload_n 0, 1) := by decide +kernel
theorem dX5_addData_1 : decode cX5_addData 1 = .ok (.iload_n 1, 1) := by decide +kernel
theorem dX5_addData_2 : decode cX5_addData 2 = .ok (.invokestatic 123, 3) := by decide +kernel
theorem dX5_addData_5 : decode cX5_addData 5 = .ok (.ifCond .ne 23, 3) := by decide +kernel
theorem dX5_addData_8 : decode cX5_addData 8 = .ok (.iload_n 2, 1) := by decide +kernel
theorem dX5_addData_9 : decode cX5_addData 9 = .ok (.iconst 0, 1) := by decide +kernel
theorem dX5_addData_10 : decode cX5_addData 10 = .ok (.iconst 3, 1) := by decide +kernel
theorem dX5_addData_11 : decode cX5_addData 11 = .ok (.invokestatic 112, 3) := by decide +kernel
theorem dX5_addData_14 : decode cX5_addData 14 = .ok (.ifCond .eq 14, 3) := by decide +kernel
theorem dX5_addData_17 : decode cX5_addData 17 = .ok (.iload_n 3, 1) := by decide +kernel
theorem dX5_addData_18 : decode cX5_addData 18 = .ok (.iconst 0, 1) := by decide +kernel
theorem dX5_addData_19 : decode cX5_addData 19 = .ok (.sipush 999, 3) := by decide +kernel
theorem dX5_addData_22 : decode cX5_addData 22 = .ok (.invokestatic 112, 3) := by decide +kernel
theorem dX5_addData_25 : decode cX5_addData 25 = .ok (.ifCond .ne 7, 3) := by decide +kernel
theorem dX5_addData_28 : decode cX5_addData 28 = .ok (.iconst 1, 1) := by decide +kernel
theorem dX5_addData_29 : decode cX5_addData 29 = .ok (.goto 16, 3) := by decide +kernel
theorem dX5_addData_32 : decode cX5_addData 32 = .ok (.aload_n 0, 1) := by decide +kernel
theorem dX5_addData_33 : decode cX5_addData 33 = .ok (.iload_n 1, 1) := by decide +kernel
theorem dX5_addData_34 : decode cX5_addData 34 = .ok (.invokevirtual 126, 3) := by decide +kernel
theorem dX5_addData_37 : decode cX5_addData 37 = .ok (.ifCond .eq 7, 3) := by decide +kernel
theorem dX5_addData_40 : decode cX5_addData 40 = .ok (.iconst 2, 1) := by decide +kernel
theorem dX5_addData_41 : decode cX5_addData 41 = .ok (.goto 4, 3) := by decide +kernel
theorem dX5_addData_44 : decode cX5_addData 44 = .ok (.iconst 0, 1) := by decide +kernel
theorem dX5_addData_45 : decode cX5_addData 45 = .ok (.invokevirtual 119, 3) := by decide +kernel
theorem dX5_addData_48 : decode cX5_addData 48 = .ok (.ifCond .eq 5, 3) := by decide +kernel
theorem dX5_addData_51 : decode cX5_addData 51 = .ok (.iconst 0, 1) := by decide +kernel
theorem dX5_addData_52 : decode cX5_addData 52 = .ok (.ireturn, 1) := by decide +kernel
theorem dX5_addData_53 : decode cX5_addData 53 = .ok (.aload_n 0, 1) := by decide +kernel
theorem dX5_addData_54 : decode cX5_addData 54 = .ok (.getfield 7, 3) := by decide +kernel
theorem dX5_addData_57 : decode cX5_addData 57 = .ok (.iload_n 1, 1) := by decide +kernel
theorem dX5_addData_58 : decode cX5_addData 58 = .ok (.iconst 1, 1) := by decide +kernel
theorem dX5_addData_59 : decode cX5_addData 59 = .ok (.bastore, 1) := by decide +kernel
theorem dX5_addData_60 : decode cX5_addData 60 = .ok (.aload_n 0, 1) := by decide +kernel
theorem dX5_addData_61 : decode cX5_addData 61 = .ok (.getfield 13, 3) := by decide +kernel
theorem dX5_addData_64 : decode cX5_addData 64 = .ok (.iload_n 1, 1) := by decide +kernel
theorem dX5_addData_65 : decode cX5_addData 65 = .ok (.iload_n 2, 1) := by decide +kernel
theorem dX5_addData_66 : decode cX5_addData 66 = .ok (.iastore, 1) := by decide +kernel
theorem dX5_addData_67 : decode cX5_addData 67 = .ok (.aload_n 0, 1) := by decide +kernel
theorem dX5_addData_68 : decode cX5_addData 68 = .ok (.getfield 17, 3) := by decide +kernel
theorem dX5_addData_71 : decode cX5_addData 71 = .ok (.iload_n 1, 1) := by decide +kernel
theorem dX5_addData_72 : decode cX5_addData 72 = .ok (.iload_n 3, 1) := by decide +kernel
theorem dX5_addData_73 : decode cX5_addData 73 = .ok (.iastore, 1) := by decide +kernel
theorem dX5_addData_74 : decode cX5_addData 74 = .ok (.aload_n 0, 1) := by decide +kernel
theorem dX5_addData_75 : decode cX5_addData 75 = .ok (.dup, 1) := by decide +kernel
theorem dX5_addData_76 : decode cX5_addData 76 = .ok (.getfield 129, 3) := by decide +kernel
theorem dX5_addData_79 : decode cX5_addData 79 = .ok (.iconst 1, 1) := by decide +kernel
theorem dX5_addData_80 : decode cX5_addData 80 = .ok (.iadd, 1) := by decide +kernel
theorem dX5_addData_81 : decode cX5_addData 81 = .ok (.putfield 129, 3) := by decide +kernel
theorem dX5_addData_84 : decode cX5_addData 84 = .ok (.aload_n 0, 1) := by decide +kernel
theorem dX5_addData_85 : decode cX5_addData 85 = .ok (.getfield 129, 3) := by decide +kernel
theorem dX5_addData_88 : decode cX5_addData 88 = .ok (.ireturn, 1) := by decide +kernel
theorem dX5_setData_0 : decode cX5_setData 0 = .ok (.aload_n 0, 1) := by decide +kernel
theorem dX5_setData_1 : decode cX5_setData 1 = .ok (.iload_n 1, 1) := by decide +kernel
theorem dX5_setData_2 : decode cX5_setData 2 = .ok (.invokestatic 123, 3) := by decide +kernel
theorem dX5_setData_5 : decode cX5_setData 5 = .ok (.ifCond .ne 14, 3) := by decide +kernel
theorem dX5_setData_8 : decode cX5_setData 8 = .ok (.iload_n 2, 1) := by decide +kernel
theorem dX5_setData_9 : decode cX5_setData 9 = .ok (.iconst 0, 1) := by decide +kernel
theorem dX5_setData_10 : decode cX5_setData 10 = .ok (.sipush 999, 3) := by decide +kernel
theorem dX5_setData_13 : decode cX5_setData 13 = .ok (.invokestatic 112, 3) := by decide +kernel
theorem dX5_setData_16 : decode cX5_setData 16 = .ok (.ifCond .ne 7, 3) := by decide +kernel
theorem dX5_setData_19 : decode cX5_setData 19 = .ok (.iconst 1, 1) := by decide +kernel
theorem dX5_setData_20 : decode cX5_setData 20 = .ok (.goto 17, 3) := by decide +kernel
theorem dX5_setData_23 : decode cX5_setData 23 = .ok (.aload_n 0, 1) := by decide +kernel
theorem dX5_setData_24 : decode cX5_setData 24 = .ok (.getfield 7, 3) := by decide +kernel
theorem dX5_setData_27 : decode cX5_setData 27 = .ok (.iload_n 1, 1) := by decide +kernel
theorem dX5_setData_28 : decode cX5_setData 28 = .ok (.baload, 1) := by decide +kernel
theorem dX5_setData_29 : decode cX5_setData 29 = .ok (.ifCond .eq 7, 3) := by decide +kernel
theorem dX5_setData_32 : decode cX5_setData 32 = .ok (.iconst 0, 1) := by decide +kernel
theorem dX5_setData_33 : decode cX5_setData 33 = .ok (.goto 4, 3) := by decide +kernel
theorem dX5_setData_36 : decode cX5_setData 36 = .ok (.iconst 2, 1) := by decide +kernel
theorem dX5_setData_37 : decode cX5_setData 37 = .ok (.invokevirtual 119, 3) := by decide +kernel
theorem dX5_setData_40 : decode cX5_setData 40 = .ok (.ifCond .eq 5, 3) := by decide +kernel
theorem dX5_setData_43 : decode cX5_setData 43 = .ok (.iconst 0, 1) := by decide +kernel
theorem dX5_setData_44 : decode cX5_setData 44 = .ok (.ireturn, 1) := by decide +kernel
theorem dX5_setData_45 : decode cX5_setData 45 = .ok (.aload_n 0, 1) := by decide +kernel
theorem dX5_setData_46 : decode cX5_setData 46 = .ok (.getfield 17, 3) := by decide +kernel
theorem dX5_setData_49 : decode cX5_setData 49 = .ok (.iload_n 1, 1) := by decide +kernel
theorem dX5_setData_50 : decode cX5_setData 50 = .ok (.iaload, 1) := by decide +kernel
theorem dX5_setData_51 : decode cX5_setData 51 = .ok (.istore_n 3, 1) := by decide +kernel
theorem dX5_setData_52 : decode cX5_setData 52 = .ok (.aload_n 0, 1) := by decide +kernel
theorem dX5_setData_53 : decode cX5_setData 53 = .ok (.getfield 17, 3) := by decide +kernel
theorem dX5_setData_56 : decode cX5_setData 56 = .ok (.iload_n 1, 1) := by decide +kernel
theorem dX5_setData_57 : decode cX5_setData 57 = .ok (.iload_n 2, 1) := by decide +kernel
theorem dX5_setData_58 : decode cX5_setData 58 = .ok (.iastore, 1) := by decide +kernel
theorem dX5_setData_59 : decode cX5_setData 59 = .ok (.iload_n 3, 1) := by decide +kernel
theorem dX5_setData_60 : decode cX5_setData 60 = .ok (.ireturn, 1) := by decide +kernel
theorem dX5_loseData_0 : decode cX5_loseData 0 = .ok (.aload_n 0, 1) := by decide +kernel
theorem dX5_loseData_1 : decode cX5_loseData 1 = .ok (.iload_n 1, 1) := by decide +kernel
theorem dX5_loseData_2 : decode cX5_loseData 2 = .ok (.invokestatic 123, 3) := by decide +kernel
theorem dX5_loseData_5 : decode cX5_loseData 5 = .ok (.ifCond .eq 7, 3) := by decide +kernel
theorem dX5_loseData_8 : decode cX5_loseData 8 = .ok (.iconst 1, 1) := by decide +kernel
theorem dX5_loseData_9 : decode cX5_loseData 9 = .ok (.goto 30, 3) := by decide +kernel
theorem dX5_loseData_12 : decode cX5_loseData 12 = .ok (.aload_n 0, 1) := by decide +kernel
theorem dX5_loseData_13 : decode cX5_loseData 13 = .ok (.getfield 7, 3) := by decide +kernel
theorem dX5_loseData_16 : decode cX5_loseData 16 = .ok (.iload_n 1, 1) := by decide +kernel
theorem dX5_loseData_17 : decode cX5_loseData 17 = .ok (.baload, 1) := by decide +kernel
theorem dX5_loseData_18 : decode cX5_loseData 18 = .ok (.ifCond .ne 7, 3) := by decide +kernel
theorem dX5_loseData_21 : decode cX5_loseData 21 = .ok (.iconst 2, 1) := by decide +kernel
theorem dX5_loseData_22 : decode cX5_loseData 22 = .ok (.goto 17, 3) := by decide +kernel
theorem dX5_loseData_25 : decode cX5_loseData 25 = .ok (.aload_n 0, 1) := by decide +kernel
theorem dX5_loseData_26 : decode cX5_loseData 26 = .ok (.getfield 17, 3) := by decide +kernel
theorem dX5_loseData_29 : decode cX5_loseData 29 = .ok (.iload_n 1, 1) := by decide +kernel
theorem dX5_loseData_30 : decode cX5_loseData 30 = .ok (.iaload, 1) := by decide +kernel
theorem dX5_loseData_31 : decode cX5_loseData 31 = .ok (.ifCond .ge 7, 3) := by decide +kernel
theorem dX5_loseData_34 : decode cX5_loseData 34 = .ok (.iconst 3, 1) := by decide +kernel
theorem dX5_loseData_35 : decode cX5_loseData 35 = .ok (.goto 4, 3) := by decide +kernel
theorem dX5_loseData_38 : decode cX5_loseData 38 = .ok (.iconst 0, 1) := by decide +kernel
theorem dX5_loseData_39 : decode cX5_loseData 39 = .ok (.invokevirtual 119, 3) := by decide +kernel
theorem dX5_loseData_42 : decode cX5_loseData 42 = .ok (.ifCond .eq 5, 3) := by decide +kernel
theorem dX5_loseData_45 : decode cX5_loseData 45 = .ok (.iconst 0, 1) := by decide +kernel
theorem dX5_loseData_46 : decode cX5_loseData 46 = .ok (.ireturn, 1) := by decide +kernel
theorem dX5_loseData_47 : decode cX5_loseData 47 = .ok (.aload_n 0, 1) := by decide +kernel
theorem dX5_loseData_48 : decode cX5_loseData 48 = .ok (.getfield 17, 3) := by decide +kernel
theorem dX5_loseData_51 : decode cX5_loseData 51 = .ok (.iload_n 1, 1) := by decide +kernel
theorem dX5_loseData_52 : decode cX5_loseData 52 = .ok (.iaload, 1) := by decide +kernel
theorem dX5_loseData_53 : decode cX5_loseData 53 = .ok (.istore_n 2, 1) := by decide +kernel
theorem dX5_loseData_54 : decode cX5_loseData 54 = .ok (.aload_n 0, 1) := by decide +kernel
theorem dX5_loseData_55 : decode cX5_loseData 55 = .ok (.getfield 17, 3) := by decide +kernel
theorem dX5_loseData_58 : decode cX5_loseData 58 = .ok (.iload_n 1, 1) := by decide +kernel
theorem dX5_loseData_59 : decode cX5_loseData 59 = .ok (.iconst (-1), 1) := by decide +kernel
theorem dX5_loseData_60 : decode cX5_loseData 60 = .ok (.iastore, 1) := by decide +kernel
theorem dX5_loseData_61 : decode cX5_loseData 61 = .ok (.iload_n 2, 1) := by decide +kernel
theorem dX5_loseData_62 : decode cX5_loseData 62 = .ok (.ireturn, 1) := by decide +kernel
theorem dX5_isKind_0 : decode cX5_isKind 0 = .ok (.iload_n 0, 1) := by decide +kernel
theorem dX5_isKind_1 : decode cX5_isKind 1 = .ok (.bipush 43, 2) := by decide +kernel
theorem dX5_isKind_3 : decode cX5_isKind 3 = .ok (.if_icmp .eq 21, 3) := by decide +kernel
theorem dX5_isKind_6 : decode cX5_isKind 6 = .ok (.iload_n 0, 1) := by decide +kernel
theorem dX5_isKind_7 : decode cX5_isKind 7 = .ok (.bipush 42, 2) := by decide +kernel
theorem dX5_isKind_9 : decode cX5_isKind 9 = .ok (.if_icmp .eq 15, 3) := by decide +kernel
theorem dX5_isKind_12 : decode cX5_isKind 12 = .ok (.iload_n 0, 1) := by decide +kernel
theorem dX5_isKind_13 : decode cX5_isKind 13 = .ok (.bipush 45, 2) := by decide +kernel
theorem dX5_isKind_15 : decode cX5_isKind 15 = .ok (.if_icmp .eq 9, 3) := by decide +kernel
theorem dX5_isKind_18 : decode cX5_isKind 18 = .ok (.iload_n 0, 1) := by decide +kernel
theorem dX5_isKind_19 : decode cX5_isKind 19 = .ok (.bipush 47, 2) := by decide +kernel
theorem dX5_isKind_21 : decode cX5_isKind 21 = .ok (.if_icmp .ne 7, 3) := by decide +kernel
theorem dX5_isKind_24 : decode cX5_isKind 24 = .ok (.iconst 1, 1) := by decide +kernel
theorem dX5_isKind_25 : decode cX5_isKind 25 = .ok (.goto 4, 3) := by decide +kernel
theorem dX5_isKind_28 : decode cX5_isKind 28 = .ok (.iconst 0, 1) := by decide +kernel
theorem dX5_isKind_29 : decode cX5_isKind 29 = .ok (.ireturn, 1) := by decide +kernel
theorem dX5_isCell_0 : decode cX5_isCell 0 = .ok (.iload_n 0, 1) := by decide +kernel
theorem dX5_isCell_1 : decode cX5_isCell 1 = .ok (.invokestatic 132, 3) := by decide +kernel
theorem dX5_isCell_4 : decode cX5_isCell 4 = .ok (.ifCond .eq 63, 3) := by decide +kernel
theorem dX5_isCell_7 : decode cX5_isCell 7 = .ok (.iload_n 1, 1) := by decide +kernel
theorem dX5_isCell_8 : decode cX5_isCell 8 = .ok (.invokestatic 123, 3) := by decide +kernel
theorem dX5_isCell_11 : decode cX5_isCell 11 = .ok (.ifCond .ne 56, 3) := by decide +kernel
theorem dX5_isCell_14 : decode cX5_isCell 14 = .ok (.iload_n 2, 1) := by decide +kernel
theorem dX5_isCell_15 : decode cX5_isCell 15 = .ok (.iconst (-1), 1) := by decide +kernel
theorem dX5_isCell_16 : decode cX5_isCell 16 = .ok (.bipush 11, 2) := by decide +kernel
theorem dX5_isCell_18 : decode cX5_isCell 18 = .ok (.invokestatic 112, 3) := by decide +kernel
theorem dX5_isCell_21 : decode cX5_isCell 21 = .ok (.ifCond .eq 46, 3) := by decide +kernel
theorem dX5_isCell_24 : decode cX5_isCell 24 = .ok (.iload_n 3, 1) := by decide +kernel
theorem dX5_isCell_25 : decode cX5_isCell 25 = .ok (.iconst 0, 1) := by decide +kernel
theorem dX5_isCell_26 : decode cX5_isCell 26 = .ok (.bipush 99, 2) := by decide +kernel
theorem dX5_isCell_28 : decode cX5_isCell 28 = .ok (.invokestatic 112, 3) := by decide +kernel
theorem dX5_isCell_31 : decode cX5_isCell 31 = .ok (.ifCond .eq 36, 3) := by decide +kernel
theorem dX5_isCell_34 : decode cX5_isCell 34 = .ok (.iload 4, 2) := by decide +kernel
theorem dX5_isCell_36 : decode cX5_isCell 36 = .ok (.invokestatic 123, 3) := by decide +kernel
theorem dX5_isCell_39 : decode cX5_isCell 39 = .ok (.ifCond .ne 28, 3) := by decide +kernel
theorem dX5_isCell_42 : decode cX5_isCell 42 = .ok (.iload 5, 2) := by decide +kernel
theorem dX5_isCell_44 : decode cX5_isCell 44 = .ok (.iconst 1, 1) := by decide +kernel
theorem dX5_isCell_45 : decode cX5_isCell 45 = .ok (.iconst 5, 1) := by decide +kernel
theorem dX5_isCell_46 : decode cX5_isCell 46 = .ok (.invokestatic 112, 3) := by decide +kernel
theorem dX5_isCell_49 : decode cX5_isCell 49 = .ok (.ifCond .eq 18, 3) := by decide +kernel
theorem dX5_isCell_52 : decode cX5_isCell 52 = .ok (.iload 6, 2) := by decide +kernel
theorem dX5_isCell_54 : decode cX5_isCell 54 = .ok (.iconst 1, 1) := by decide +kernel
theorem dX5_isCell_55 : decode cX5_isCell 55 = .ok (.bipush 9, 2) := by decide +kernel
theorem dX5_isCell_57 : decode cX5_isCell 57 = .ok (.invokestatic 112, 3) := by decide +kernel
theorem dX5_isCell_60 : decode cX5_isCell 60 = .ok (.ifCond .eq 7, 3) := by decide +kernel
theorem dX5_isCell_63 : decode cX5_isCell 63 = .ok (.iconst 1, 1) := by decide +kernel
theorem dX5_isCell_64 : decode cX5_isCell 64 = .ok (.goto 4, 3) := by decide +kernel
theorem dX5_isCell_67 : decode cX5_isCell 67 = .ok (.iconst 0, 1) := by decide +kernel
theorem dX5_isCell_68 : decode cX5_isCell 68 = .ok (.ireturn, 1) := by decide +kernel
theorem dX5_addCell_0 : decode cX5_addCell 0 = .ok (.aload_n 0, 1) := by decide +kernel
theorem dX5_addCell_1 : decode cX5_addCell 1 = .ok (.iload_n 1, 1) := by decide +kernel
theorem dX5_addCell_2 : decode cX5_addCell 2 = .ok (.iload_n 2, 1) := by decide +kernel
theorem dX5_addCell_3 : decode cX5_addCell 3 = .ok (.iload_n 3, 1) := by decide +kernel
theorem dX5_addCell_4 : decode cX5_addCell 4 = .ok (.iload 4, 2) := by decide +kernel
theorem dX5_addCell_6 : decode cX5_addCell 6 = .ok (.iload 5, 2) := by decide +kernel
theorem dX5_addCell_8 : decode cX5_addCell 8 = .ok (.iload 6, 2) := by decide +kernel
theorem dX5_addCell_10 : decode cX5_addCell 10 = .ok (.iload 7, 2) := by decide +kernel
theorem dX5_addCell_12 : decode cX5_addCell 12 = .ok (.invokestatic 136, 3) := by decide +kernel
theorem dX5_addCell_15 : decode cX5_addCell 15 = .ok (.ifCond .ne 7, 3) := by decide +kernel
theorem dX5_addCell_18 : decode cX5_addCell 18 = .ok (.iconst 1, 1) := by decide +kernel
theorem dX5_addCell_19 : decode cX5_addCell 19 = .ok (.goto 37, 3) := by decide +kernel
theorem dX5_addCell_22 : decode cX5_addCell 22 = .ok (.aload_n 0, 1) := by decide +kernel
theorem dX5_addCell_23 : decode cX5_addCell 23 = .ok (.iload_n 2, 1) := by decide +kernel
theorem dX5_addCell_24 : decode cX5_addCell 24 = .ok (.invokevirtual 126, 3) := by decide +kernel
theorem dX5_addCell_27 : decode cX5_addCell 27 = .ok (.ifCond .eq 24, 3) := by decide +kernel
theorem dX5_addCell_30 : decode cX5_addCell 30 = .ok (.iload_n 3, 1) := by decide +kernel
theorem dX5_addCell_31 : decode cX5_addCell 31 = .ok (.ifCond .lt 11, 3) := by decide +kernel
theorem dX5_addCell_34 : decode cX5_addCell 34 = .ok (.aload_n 0, 1) := by decide +kernel
theorem dX5_addCell_35 : decode cX5_addCell 35 = .ok (.iload_n 3, 1) := by decide +kernel
theorem dX5_addCell_36 : decode cX5_addCell 36 = .ok (.invokevirtual 126, 3) := by decide +kernel
theorem dX5_addCell_39 : decode cX5_addCell 39 = .ok (.ifCond .eq 12, 3) := by decide +kernel
theorem dX5_addCell_42 : decode cX5_addCell 42 = .ok (.aload_n 0, 1) := by decide +kernel
theorem dX5_addCell_43 : decode cX5_addCell 43 = .ok (.iload 5, 2) := by decide +kernel
theorem dX5_addCell_45 : decode cX5_addCell 45 = .ok (.invokevirtual 126, 3) := by decide +kernel
theorem dX5_addCell_48 : decode cX5_addCell 48 = .ok (.ifCond .eq 7, 3) := by decide +kernel
theorem dX5_addCell_51 : decode cX5_addCell 51 = .ok (.iconst 2, 1) := by decide +kernel
theorem dX5_addCell_52 : decode cX5_addCell 52 = .ok (.goto 4, 3) := by decide +kernel
theorem dX5_addCell_55 : decode cX5_addCell 55 = .ok (.iconst 0, 1) := by decide +kernel
theorem dX5_addCell_56 : decode cX5_addCell 56 = .ok (.invokevirtual 119, 3) := by decide +kernel
theorem dX5_addCell_59 : decode cX5_addCell 59 = .ok (.ifCond .eq 5, 3) := by decide +kernel
theorem dX5_addCell_62 : decode cX5_addCell 62 = .ok (.iconst 0, 1) := by decide +kernel
theorem dX5_addCell_63 : decode cX5_addCell 63 = .ok (.ireturn, 1) := by decide +kernel
theorem dX5_addCell_64 : decode cX5_addCell 64 = .ok (.aload_n 0, 1) := by decide +kernel
theorem dX5_addCell_65 : decode cX5_addCell 65 = .ok (.getfield 23, 3) := by decide +kernel
theorem dX5_addCell_68 : decode cX5_addCell 68 = .ok (.aload_n 0, 1) := by decide +kernel
theorem dX5_addCell_69 : decode cX5_addCell 69 = .ok (.getfield 116, 3) := by decide +kernel
theorem dX5_addCell_72 : decode cX5_addCell 72 = .ok (.iload_n 1, 1) := by decide +kernel
theorem dX5_addCell_73 : decode cX5_addCell 73 = .ok (.castore, 1) := by decide +kernel
theorem dX5_addCell_74 : decode cX5_addCell 74 = .ok (.aload_n 0, 1) := by decide +kernel
theorem dX5_addCell_75 : decode cX5_addCell 75 = .ok (.getfield 27, 3) := by decide +kernel
theorem dX5_addCell_78 : decode cX5_addCell 78 = .ok (.aload_n 0, 1) := by decide +kernel
theorem dX5_addCell_79 : decode cX5_addCell 79 = .ok (.getfield 116, 3) := by decide +kernel
theorem dX5_addCell_82 : decode cX5_addCell 82 = .ok (.iload_n 2, 1) := by decide +kernel
theorem dX5_addCell_83 : decode cX5_addCell 83 = .ok (.iastore, 1) := by decide +kernel
theorem dX5_addCell_84 : decode cX5_addCell 84 = .ok (.aload_n 0, 1) := by decide +kernel
theorem dX5_addCell_85 : decode cX5_addCell 85 = .ok (.getfield 30, 3) := by decide +kernel
theorem dX5_addCell_88 : decode cX5_addCell 88 = .ok (.aload_n 0, 1) := by decide +kernel
theorem dX5_addCell_89 : decode cX5_addCell 89 = .ok (.getfield 116, 3) := by decide +kernel
theorem dX5_addCell_92 : decode cX5_addCell 92 = .ok (.iload_n 3, 1) := by decide +kernel
theorem dX5_addCell_93 : decode cX5_addCell 93 = .ok (.iastore, 1) := by decide +kernel
theorem dX5_addCell_94 : decode cX5_addCell 94 = .ok (.aload_n 0, 1) := by decide +kernel
theorem dX5_addCell_95 : decode cX5_addCell 95 = .ok (.getfield 33, 3) := by decide +kernel
theorem dX5_addCell_98 : decode cX5_addCell 98 = .ok (.aload_n 0, 1) := by decide +kernel
theorem dX5_addCell_99 : decode cX5_addCell 99 = .ok (.getfield 116, 3) := by decide +kernel
theorem dX5_addCell_102 : decode cX5_addCell 102 = .ok (.iload 4, 2) := by decide +kernel
theorem dX5_addCell_104 : decode cX5_addCell 104 = .ok (.iastore, 1) := by decide +kernel
theorem dX5_addCell_105 : decode cX5_addCell 105 = .ok (.aload_n 0, 1) := by decide +kernel
theorem dX5_addCell_106 : decode cX5_addCell 106 = .ok (.getfield 36, 3) := by decide +kernel
theorem dX5_addCell_109 : decode cX5_addCell 109 = .ok (.aload_n 0, 1) := by decide +kernel
theorem dX5_addCell_110 : decode cX5_addCell 110 = .ok (.getfield 116, 3) := by decide +kernel
theorem dX5_addCell_113 : decode cX5_addCell 113 = .ok (.iload 5, 2) := by decide +kernel
theorem dX5_addCell_115 : decode cX5_addCell 115 = .ok (.iastore, 1) := by decide +kernel
theorem dX5_addCell_116 : decode cX5_addCell 116 = .ok (.aload_n 0, 1) := by decide +kernel
theorem dX5_addCell_117 : decode cX5_addCell 117 = .ok (.getfield 39, 3) := by decide +kernel
theorem dX5_addCell_120 : decode cX5_addCell 120 = .ok (.aload_n 0, 1) := by decide +kernel
theorem dX5_addCell_121 : decode cX5_addCell 121 = .ok (.getfield 116, 3) := by decide +kernel
theorem dX5_addCell_124 : decode cX5_addCell 124 = .ok (.iload 6, 2) := by decide +kernel
theorem dX5_addCell_126 : decode cX5_addCell 126 = .ok (.iastore, 1) := by decide +kernel
theorem dX5_addCell_127 : decode cX5_addCell 127 = .ok (.aload_n 0, 1) := by decide +kernel
theorem dX5_addCell_128 : decode cX5_addCell 128 = .ok (.getfield 42, 3) := by decide +kernel
theorem dX5_addCell_131 : decode cX5_addCell 131 = .ok (.aload_n 0, 1) := by decide +kernel
theorem dX5_addCell_132 : decode cX5_addCell 132 = .ok (.getfield 116, 3) := by decide +kernel
theorem dX5_addCell_135 : decode cX5_addCell 135 = .ok (.iload 7, 2) := by decide +kernel
theorem dX5_addCell_137 : decode cX5_addCell 137 = .ok (.iastore, 1) := by decide +kernel
theorem dX5_addCell_138 : decode cX5_addCell 138 = .ok (.aload_n 0, 1) := by decide +kernel
theorem dX5_addCell_139 : decode cX5_addCell 139 = .ok (.getfield 20, 3) := by decide +kernel
theorem dX5_addCell_142 : decode cX5_addCell 142 = .ok (.iload 5, 2) := by decide +kernel
theorem dX5_addCell_144 : decode cX5_addCell 144 = .ok (.aload_n 0, 1) := by decide +kernel
theorem dX5_addCell_145 : decode cX5_addCell 145 = .ok (.getfield 116, 3) := by decide +kernel
theorem dX5_addCell_148 : decode cX5_addCell 148 = .ok (.iastore, 1) := by decide +kernel
theorem dX5_addCell_149 : decode cX5_addCell 149 = .ok (.aload_n 0, 1) := by decide +kernel
theorem dX5_addCell_150 : decode cX5_addCell 150 = .ok (.dup, 1) := by decide +kernel
theorem dX5_addCell_151 : decode cX5_addCell 151 = .ok (.getfield 116, 3) := by decide +kernel
theorem dX5_addCell_154 : decode cX5_addCell 154 = .ok (.iconst 1, 1) := by decide +kernel
theorem dX5_addCell_155 : decode cX5_addCell 155 = .ok (.iadd, 1) := by decide +kernel
theorem dX5_addCell_156 : decode cX5_addCell 156 = .ok (.putfield 116, 3) := by decide +kernel
theorem dX5_addCell_159 : decode cX5_addCell 159 = .ok (.aload_n 0, 1) := by decide +kernel
theorem dX5_addCell_160 : decode cX5_addCell 160 = .ok (.getfield 116, 3) := by decide +kernel
theorem dX5_addCell_163 : decode cX5_addCell 163 = .ok (.iconst 1, 1) := by decide +kernel
theorem dX5_addCell_164 : decode cX5_addCell 164 = .ok (.isub, 1) := by decide +kernel
theorem dX5_addCell_165 : decode cX5_addCell 165 = .ok (.ireturn, 1) := by decide +kernel
theorem dX5_setConstant_0 : decode cX5_setConstant 0 = .ok (.aload_n 0, 1) := by decide +kernel
theorem dX5_setConstant_1 : decode cX5_setConstant 1 = .ok (.iload_n 1, 1) := by decide +kernel
theorem dX5_setConstant_2 : decode cX5_setConstant 2 = .ok (.invokevirtual 140, 3) := by decide +kernel
theorem dX5_setConstant_5 : decode cX5_setConstant 5 = .ok (.ifCond .ne 25, 3) := by decide +kernel
theorem dX5_setConstant_8 : decode cX5_setConstant 8 = .ok (.aload_n 0, 1) := by decide +kernel
theorem dX5_setConstant_9 : decode cX5_setConstant 9 = .ok (.iload_n 2, 1) := by decide +kernel
theorem dX5_setConstant_10 : decode cX5_setConstant 10 = .ok (.iconst 0, 1) := by decide +kernel
theorem dX5_setConstant_11 : decode cX5_setConstant 11 = .ok (.bipush 99, 2) := by decide +kernel
theorem dX5_setConstant_13 : decode cX5_setConstant 13 = .ok (.invokestatic 112, 3) := by decide +kernel
theorem dX5_setConstant_16 : decode cX5_setConstant 16 = .ok (.ifCond .eq 7, 3) := by decide +kernel
theorem dX5_setConstant_19 : decode cX5_setConstant 19 = .ok (.iconst 0, 1) := by decide +kernel
theorem dX5_setConstant_20 : decode cX5_setConstant 20 = .ok (.goto 4, 3) := by decide +kernel
theorem dX5_setConstant_23 : decode cX5_setConstant 23 = .ok (.iconst 2, 1) := by decide +kernel
theorem dX5_setConstant_24 : decode cX5_setConstant 24 = .ok (.invokevirtual 119, 3) := by decide +kernel
theorem dX5_setConstant_27 : decode cX5_setConstant 27 = .ok (.ifCond .eq 5, 3) := by decide +kernel
theorem dX5_setConstant_30 : decode cX5_setConstant 30 = .ok (.iconst 0, 1) := by decide +kernel
theorem dX5_setConstant_31 : decode cX5_setConstant 31 = .ok (.ireturn, 1) := by decide +kernel
theorem dX5_setConstant_32 : decode cX5_setConstant 32 = .ok (.aload_n 0, 1) := by decide +kernel
theorem dX5_setConstant_33 : decode cX5_setConstant 33 = .ok (.getfield 33, 3) := by decide +kernel
theorem dX5_setConstant_36 : decode cX5_setConstant 36 = .ok (.iload_n 1, 1) := by decide +kernel
theorem dX5_setConstant_37 : decode cX5_setConstant 37 = .ok (.iaload, 1) := by decide +kernel
theorem dX5_setConstant_38 : decode cX5_setConstant 38 = .ok (.istore_n 3, 1) := by decide +kernel
theorem dX5_setConstant_39 : decode cX5_setConstant 39 = .ok (.aload_n 0, 1) := by decide +kernel
theorem dX5_setConstant_40 : decode cX5_setConstant 40 = .ok (.getfield 33, 3) := by decide +kernel
theorem dX5_setConstant_43 : decode cX5_setConstant 43 = .ok (.iload_n 1, 1) := by decide +kernel
theorem dX5_setConstant_44 : decode cX5_setConstant 44 = .ok (.iload_n 2, 1) := by decide +kernel
theorem dX5_setConstant_45 : decode cX5_setConstant 45 = .ok (.iastore, 1) := by decide +kernel
theorem dX5_setConstant_46 : decode cX5_setConstant 46 = .ok (.iload_n 3, 1) := by decide +kernel
theorem dX5_setConstant_47 : decode cX5_setConstant 47 = .ok (.ireturn, 1) := by decide +kernel
theorem dX5_cellCount_0 : decode cX5_cellCount 0 = .ok (.aload_n 0, 1) := by decide +kernel
theorem dX5_cellCount_1 : decode cX5_cellCount 1 = .ok (.aload_n 0, 1) := by decide +kernel
theorem dX5_cellCount_2 : decode cX5_cellCount 2 = .ok (.getfield 116, 3) := by decide +kernel
theorem dX5_cellCount_5 : decode cX5_cellCount 5 = .ok (.invokevirtual 143, 3) := by decide +kernel
theorem dX5_cellCount_8 : decode cX5_cellCount 8 = .ok (.ireturn, 1) := by decide +kernel
theorem dX5_value_0 : decode cX5_value 0 = .ok (.aload_n 0, 1) := by decide +kernel
theorem dX5_value_1 : decode cX5_value 1 = .ok (.iload_n 1, 1) := by decide +kernel
theorem dX5_value_2 : decode cX5_value 2 = .ok (.invokestatic 123, 3) := by decide +kernel
theorem dX5_value_5 : decode cX5_value 5 = .ok (.ifCond .eq 7, 3) := by decide +kernel
theorem dX5_value_8 : decode cX5_value 8 = .ok (.iconst 1, 1) := by decide +kernel
theorem dX5_value_9 : decode cX5_value 9 = .ok (.goto 17, 3) := by decide +kernel
theorem dX5_value_12 : decode cX5_value 12 = .ok (.aload_n 0, 1) := by decide +kernel
theorem dX5_value_13 : decode cX5_value 13 = .ok (.getfield 17, 3) := by decide +kernel
theorem dX5_value_16 : decode cX5_value 16 = .ok (.iload_n 1, 1) := by decide +kernel
theorem dX5_value_17 : decode cX5_value 17 = .ok (.iaload, 1) := by decide +kernel
theorem dX5_value_18 : decode cX5_value 18 = .ok (.ifCond .ge 7, 3) := by decide +kernel
theorem dX5_value_21 : decode cX5_value 21 = .ok (.iconst 2, 1) := by decide +kernel
theorem dX5_value_22 : decode cX5_value 22 = .ok (.goto 4, 3) := by decide +kernel
theorem dX5_value_25 : decode cX5_value 25 = .ok (.iconst 0, 1) := by decide +kernel
theorem dX5_value_26 : decode cX5_value 26 = .ok (.invokevirtual 119, 3) := by decide +kernel
theorem dX5_value_29 : decode cX5_value 29 = .ok (.ifCond .eq 7, 3) := by decide +kernel
theorem dX5_value_32 : decode cX5_value 32 = .ok (.iconst 0, 1) := by decide +kernel
theorem dX5_value_33 : decode cX5_value 33 = .ok (.goto 9, 3) := by decide +kernel
theorem dX5_value_36 : decode cX5_value 36 = .ok (.aload_n 0, 1) := by decide +kernel
theorem dX5_value_37 : decode cX5_value 37 = .ok (.getfield 17, 3) := by decide +kernel
theorem dX5_value_40 : decode cX5_value 40 = .ok (.iload_n 1, 1) := by decide +kernel
theorem dX5_value_41 : decode cX5_value 41 = .ok (.iaload, 1) := by decide +kernel
theorem dX5_value_42 : decode cX5_value 42 = .ok (.ireturn, 1) := by decide +kernel
theorem dX5_writer_0 : decode cX5_writer 0 = .ok (.aload_n 0, 1) := by decide +kernel
theorem dX5_writer_1 : decode cX5_writer 1 = .ok (.iload_n 1, 1) := by decide +kernel
theorem dX5_writer_2 : decode cX5_writer 2 = .ok (.invokestatic 123, 3) := by decide +kernel
theorem dX5_writer_5 : decode cX5_writer 5 = .ok (.ifCond .eq 7, 3) := by decide +kernel
theorem dX5_writer_8 : decode cX5_writer 8 = .ok (.iconst 1, 1) := by decide +kernel
theorem dX5_writer_9 : decode cX5_writer 9 = .ok (.goto 17, 3) := by decide +kernel
theorem dX5_writer_12 : decode cX5_writer 12 = .ok (.aload_n 0, 1) := by decide +kernel
theorem dX5_writer_13 : decode cX5_writer 13 = .ok (.getfield 20, 3) := by decide +kernel
theorem dX5_writer_16 : decode cX5_writer 16 = .ok (.iload_n 1, 1) := by decide +kernel
theorem dX5_writer_17 : decode cX5_writer 17 = .ok (.iaload, 1) := by decide +kernel
theorem dX5_writer_18 : decode cX5_writer 18 = .ok (.ifCond .ge 7, 3) := by decide +kernel
theorem dX5_writer_21 : decode cX5_writer 21 = .ok (.iconst 2, 1) := by decide +kernel
theorem dX5_writer_22 : decode cX5_writer 22 = .ok (.goto 4, 3) := by decide +kernel
theorem dX5_writer_25 : decode cX5_writer 25 = .ok (.iconst 0, 1) := by decide +kernel
theorem dX5_writer_26 : decode cX5_writer 26 = .ok (.invokevirtual 119, 3) := by decide +kernel
theorem dX5_writer_29 : decode cX5_writer 29 = .ok (.ifCond .eq 7, 3) := by decide +kernel
theorem dX5_writer_32 : decode cX5_writer 32 = .ok (.iconst 0, 1) := by decide +kernel
theorem dX5_writer_33 : decode cX5_writer 33 = .ok (.goto 9, 3) := by decide +kernel
theorem dX5_writer_36 : decode cX5_writer 36 = .ok (.aload_n 0, 1) := by decide +kernel
theorem dX5_writer_37 : decode cX5_writer 37 = .ok (.getfield 20, 3) := by decide +kernel
theorem dX5_writer_40 : decode cX5_writer 40 = .ok (.iload_n 1, 1) := by decide +kernel
theorem dX5_writer_41 : decode cX5_writer 41 = .ok (.iaload, 1) := by decide +kernel
theorem dX5_writer_42 : decode cX5_writer 42 = .ok (.ireturn, 1) := by decide +kernel
theorem dX5_apart_0 : decode cX5_apart 0 = .ok (.iload_n 0, 1) := by decide +kernel
theorem dX5_apart_1 : decode cX5_apart 1 = .ok (.iload_n 1, 1) := by decide +kernel
theorem dX5_apart_2 : decode cX5_apart 2 = .ok (.if_icmp .le 9, 3) := by decide +kernel
theorem dX5_apart_5 : decode cX5_apart 5 = .ok (.iload_n 0, 1) := by decide +kernel
theorem dX5_apart_6 : decode cX5_apart 6 = .ok (.iload_n 1, 1) := by decide +kernel
theorem dX5_apart_7 : decode cX5_apart 7 = .ok (.isub, 1) := by decide +kernel
theorem dX5_apart_8 : decode cX5_apart 8 = .ok (.goto 6, 3) := by decide +kernel
theorem dX5_apart_11 : decode cX5_apart 11 = .ok (.iload_n 1, 1) := by decide +kernel
theorem dX5_apart_12 : decode cX5_apart 12 = .ok (.iload_n 0, 1) := by decide +kernel
theorem dX5_apart_13 : decode cX5_apart 13 = .ok (.isub, 1) := by decide +kernel
theorem dX5_apart_14 : decode cX5_apart 14 = .ok (.ireturn, 1) := by decide +kernel
theorem dX5_computes_0 : decode cX5_computes 0 = .ok (.aload_n 0, 1) := by decide +kernel
theorem dX5_computes_1 : decode cX5_computes 1 = .ok (.getfield 33, 3) := by decide +kernel
theorem dX5_computes_4 : decode cX5_computes 4 = .ok (.iload_n 1, 1) := by decide +kernel
theorem dX5_computes_5 : decode cX5_computes 5 = .ok (.iaload, 1) := by decide +kernel
theorem dX5_computes_6 : decode cX5_computes 6 = .ok (.istore 4, 2) := by decide +kernel
theorem dX5_computes_8 : decode cX5_computes 8 = .ok (.aload_n 0, 1) := by decide +kernel
theorem dX5_computes_9 : decode cX5_computes 9 = .ok (.getfield 30, 3) := by decide +kernel
theorem dX5_computes_12 : decode cX5_computes 12 = .ok (.iload_n 1, 1) := by decide +kernel
theorem dX5_computes_13 : decode cX5_computes 13 = .ok (.iaload, 1) := by decide +kernel
theorem dX5_computes_14 : decode cX5_computes 14 = .ok (.ifCond .ge 8, 3) := by decide +kernel
theorem dX5_computes_17 : decode cX5_computes 17 = .ok (.iload 4, 2) := by decide +kernel
theorem dX5_computes_19 : decode cX5_computes 19 = .ok (.goto 4, 3) := by decide +kernel
theorem dX5_computes_22 : decode cX5_computes 22 = .ok (.iload_n 3, 1) := by decide +kernel
theorem dX5_computes_23 : decode cX5_computes 23 = .ok (.istore 5, 2) := by decide +kernel
theorem dX5_computes_25 : decode cX5_computes 25 = .ok (.aload_n 0, 1) := by decide +kernel
theorem dX5_computes_26 : decode cX5_computes 26 = .ok (.getfield 23, 3) := by decide +kernel
theorem dX5_computes_29 : decode cX5_computes 29 = .ok (.iload_n 1, 1) := by decide +kernel
theorem dX5_computes_30 : decode cX5_computes 30 = .ok (.caload, 1) := by decide +kernel
theorem dX5_computes_31 : decode cX5_computes 31 = .ok (.bipush 47, 2) := by decide +kernel
theorem dX5_computes_33 : decode cX5_computes 33 = .ok (.if_icmp .ne 11, 3) := by decide +kernel
theorem dX5_computes_36 : decode cX5_computes 36 = .ok (.iload 5, 2) := by decide +kernel
theorem dX5_computes_38 : decode cX5_computes 38 = .ok (.ifCond .ne 6, 3) := by decide +kernel
theorem dX5_computes_41 : decode cX5_computes 41 = .ok (.bipush (-2), 2) := by decide +kernel
theorem dX5_computes_43 : decode cX5_computes 43 = .ok (.ireturn, 1) := by decide +kernel
theorem dX5_computes_44 : decode cX5_computes 44 = .ok (.aload_n 0, 1) := by decide +kernel
theorem dX5_computes_45 : decode cX5_computes 45 = .ok (.getfield 23, 3) := by decide +kernel
theorem dX5_computes_48 : decode cX5_computes 48 = .ok (.iload_n 1, 1) := by decide +kernel
theorem dX5_computes_49 : decode cX5_computes 49 = .ok (.caload, 1) := by decide +kernel
theorem dX5_computes_50 : decode cX5_computes 50 = .ok (.bipush 47, 2) := by decide +kernel
theorem dX5_computes_52 : decode cX5_computes 52 = .ok (.if_icmp .ne 10, 3) := by decide +kernel
theorem dX5_computes_55 : decode cX5_computes 55 = .ok (.iload_n 2, 1) := by decide +kernel
theorem dX5_computes_56 : decode cX5_computes 56 = .ok (.iload 5, 2) := by decide +kernel
theorem dX5_computes_58 : decode cX5_computes 58 = .ok (.idiv, 1) := by decide +kernel
theorem dX5_computes_59 : decode cX5_computes 59 = .ok (.goto 75, 3) := by decide +kernel
theorem dX5_computes_62 : decode cX5_computes 62 = .ok (.aload_n 0, 1) := by decide +kernel
theorem dX5_computes_63 : decode cX5_computes 63 = .ok (.getfield 23, 3) := by decide +kernel
theorem dX5_computes_66 : decode cX5_computes 66 = .ok (.iload_n 1, 1) := by decide +kernel
theorem dX5_computes_67 : decode cX5_computes 67 = .ok (.caload, 1) := by decide +kernel
theorem dX5_computes_68 : decode cX5_computes 68 = .ok (.bipush 45, 2) := by decide +kernel
theorem dX5_computes_70 : decode cX5_computes 70 = .ok (.if_icmp .ne 12, 3) := by decide +kernel
theorem dX5_computes_73 : decode cX5_computes 73 = .ok (.iload_n 2, 1) := by decide +kernel
theorem dX5_computes_74 : decode cX5_computes 74 = .ok (.iload 5, 2) := by decide +kernel
theorem dX5_computes_76 : decode cX5_computes 76 = .ok (.invokestatic 147, 3) := by decide +kernel
theorem dX5_computes_79 : decode cX5_computes 79 = .ok (.goto 55, 3) := by decide +kernel
theorem dX5_computes_82 : decode cX5_computes 82 = .ok (.aload_n 0, 1) := by decide +kernel
theorem dX5_computes_83 : decode cX5_computes 83 = .ok (.getfield 23, 3) := by decide +kernel
theorem dX5_computes_86 : decode cX5_computes 86 = .ok (.iload_n 1, 1) := by decide +kernel
theorem dX5_computes_87 : decode cX5_computes 87 = .ok (.caload, 1) := by decide +kernel
theorem dX5_computes_88 : decode cX5_computes 88 = .ok (.bipush 43, 2) := by decide +kernel
theorem dX5_computes_90 : decode cX5_computes 90 = .ok (.if_icmp .ne 25, 3) := by decide +kernel
theorem dX5_computes_93 : decode cX5_computes 93 = .ok (.iload_n 2, 1) := by decide +kernel
theorem dX5_computes_94 : decode cX5_computes 94 = .ok (.iload 4, 2) := by decide +kernel
theorem dX5_computes_96 : decode cX5_computes 96 = .ok (.iadd, 1) := by decide +kernel
theorem dX5_computes_97 : decode cX5_computes 97 = .ok (.aload_n 0, 1) := by decide +kernel
theorem dX5_computes_98 : decode cX5_computes 98 = .ok (.getfield 30, 3) := by decide +kernel
theorem dX5_computes_101 : decode cX5_computes 101 = .ok (.iload_n 1, 1) := by decide +kernel
theorem dX5_computes_102 : decode cX5_computes 102 = .ok (.iaload, 1) := by decide +kernel
theorem dX5_computes_103 : decode cX5_computes 103 = .ok (.ifCond .ge 7, 3) := by decide +kernel
theorem dX5_computes_106 : decode cX5_computes 106 = .ok (.iconst 0, 1) := by decide +kernel
theorem dX5_computes_107 : decode cX5_computes 107 = .ok (.goto 4, 3) := by decide +kernel
theorem dX5_computes_110 : decode cX5_computes 110 = .ok (.iload_n 3, 1) := by decide +kernel
theorem dX5_computes_111 : decode cX5_computes 111 = .ok (.iadd, 1) := by decide +kernel
theorem dX5_computes_112 : decode cX5_computes 112 = .ok (.goto 22, 3) := by decide +kernel
theorem dX5_computes_115 : decode cX5_computes 115 = .ok (.iload_n 2, 1) := by decide +kernel
theorem dX5_computes_116 : decode cX5_computes 116 = .ok (.iload 4, 2) := by decide +kernel
theorem dX5_computes_118 : decode cX5_computes 118 = .ok (.imul, 1) := by decide +kernel
theorem dX5_computes_119 : decode cX5_computes 119 = .ok (.aload_n 0, 1) := by decide +kernel
theorem dX5_computes_120 : decode cX5_computes 120 = .ok (.getfield 30, 3) := by decide +kernel
theorem dX5_computes_123 : decode cX5_computes 123 = .ok (.iload_n 1, 1) := by decide +kernel
theorem dX5_computes_124 : decode cX5_computes 124 = .ok (.iaload, 1) := by decide +kernel
theorem dX5_computes_125 : decode cX5_computes 125 = .ok (.ifCond .ge 7, 3) := by decide +kernel
theorem dX5_computes_128 : decode cX5_computes 128 = .ok (.iconst 1, 1) := by decide +kernel
theorem dX5_computes_129 : decode cX5_computes 129 = .ok (.goto 4, 3) := by decide +kernel
theorem dX5_computes_132 : decode cX5_computes 132 = .ok (.iload_n 3, 1) := by decide +kernel
theorem dX5_computes_133 : decode cX5_computes 133 = .ok (.imul, 1) := by decide +kernel
theorem dX5_computes_134 : decode cX5_computes 134 = .ok (.istore 6, 2) := by decide +kernel
theorem dX5_computes_136 : decode cX5_computes 136 = .ok (.iload 6, 2) := by decide +kernel
theorem dX5_computes_138 : decode cX5_computes 138 = .ok (.sipush 1000, 3) := by decide +kernel
theorem dX5_computes_141 : decode cX5_computes 141 = .ok (.irem, 1) := by decide +kernel
theorem dX5_computes_142 : decode cX5_computes 142 = .ok (.ireturn, 1) := by decide +kernel
theorem dX5_second_0 : decode cX5_second 0 = .ok (.aload_n 0, 1) := by decide +kernel
theorem dX5_second_1 : decode cX5_second 1 = .ok (.getfield 30, 3) := by decide +kernel
theorem dX5_second_4 : decode cX5_second 4 = .ok (.iload_n 1, 1) := by decide +kernel
theorem dX5_second_5 : decode cX5_second 5 = .ok (.iaload, 1) := by decide +kernel
theorem dX5_second_6 : decode cX5_second 6 = .ok (.ifCond .ge 7, 3) := by decide +kernel
theorem dX5_second_9 : decode cX5_second 9 = .ok (.iconst (-1), 1) := by decide +kernel
theorem dX5_second_10 : decode cX5_second 10 = .ok (.goto 14, 3) := by decide +kernel
theorem dX5_second_13 : decode cX5_second 13 = .ok (.aload_n 0, 1) := by decide +kernel
theorem dX5_second_14 : decode cX5_second 14 = .ok (.getfield 17, 3) := by decide +kernel
theorem dX5_second_17 : decode cX5_second 17 = .ok (.aload_n 0, 1) := by decide +kernel
theorem dX5_second_18 : decode cX5_second 18 = .ok (.getfield 30, 3) := by decide +kernel
theorem dX5_second_21 : decode cX5_second 21 = .ok (.iload_n 1, 1) := by decide +kernel
theorem dX5_second_22 : decode cX5_second 22 = .ok (.iaload, 1) := by decide +kernel
theorem dX5_second_23 : decode cX5_second 23 = .ok (.iaload, 1) := by decide +kernel
theorem dX5_second_24 : decode cX5_second 24 = .ok (.ireturn, 1) := by decide +kernel
theorem dX5_lacks_0 : decode cX5_lacks 0 = .ok (.aload_n 0, 1) := by decide +kernel
theorem dX5_lacks_1 : decode cX5_lacks 1 = .ok (.getfield 17, 3) := by decide +kernel
theorem dX5_lacks_4 : decode cX5_lacks 4 = .ok (.aload_n 0, 1) := by decide +kernel
theorem dX5_lacks_5 : decode cX5_lacks 5 = .ok (.getfield 27, 3) := by decide +kernel
theorem dX5_lacks_8 : decode cX5_lacks 8 = .ok (.iload_n 1, 1) := by decide +kernel
theorem dX5_lacks_9 : decode cX5_lacks 9 = .ok (.iaload, 1) := by decide +kernel
theorem dX5_lacks_10 : decode cX5_lacks 10 = .ok (.iaload, 1) := by decide +kernel
theorem dX5_lacks_11 : decode cX5_lacks 11 = .ok (.ifCond .lt 26, 3) := by decide +kernel
theorem dX5_lacks_14 : decode cX5_lacks 14 = .ok (.aload_n 0, 1) := by decide +kernel
theorem dX5_lacks_15 : decode cX5_lacks 15 = .ok (.getfield 30, 3) := by decide +kernel
theorem dX5_lacks_18 : decode cX5_lacks 18 = .ok (.iload_n 1, 1) := by decide +kernel
theorem dX5_lacks_19 : decode cX5_lacks 19 = .ok (.iaload, 1) := by decide +kernel
theorem dX5_lacks_20 : decode cX5_lacks 20 = .ok (.ifCond .lt 21, 3) := by decide +kernel
theorem dX5_lacks_23 : decode cX5_lacks 23 = .ok (.aload_n 0, 1) := by decide +kernel
theorem dX5_lacks_24 : decode cX5_lacks 24 = .ok (.getfield 17, 3) := by decide +kernel
theorem dX5_lacks_27 : decode cX5_lacks 27 = .ok (.aload_n 0, 1) := by decide +kernel
theorem dX5_lacks_28 : decode cX5_lacks 28 = .ok (.getfield 30, 3) := by decide +kernel
theorem dX5_lacks_31 : decode cX5_lacks 31 = .ok (.iload_n 1, 1) := by decide +kernel
theorem dX5_lacks_32 : decode cX5_lacks 32 = .ok (.iaload, 1) := by decide +kernel
theorem dX5_lacks_33 : decode cX5_lacks 33 = .ok (.iaload, 1) := by decide +kernel
theorem dX5_lacks_34 : decode cX5_lacks 34 = .ok (.ifCond .ge 7, 3) := by decide +kernel
theorem dX5_lacks_37 : decode cX5_lacks 37 = .ok (.iconst 1, 1) := by decide +kernel
theorem dX5_lacks_38 : decode cX5_lacks 38 = .ok (.goto 4, 3) := by decide +kernel
theorem dX5_lacks_41 : decode cX5_lacks 41 = .ok (.iconst 0, 1) := by decide +kernel
theorem dX5_lacks_42 : decode cX5_lacks 42 = .ok (.ireturn, 1) := by decide +kernel
theorem dX5_anew_0 : decode cX5_anew 0 = .ok (.aload_n 0, 1) := by decide +kernel
theorem dX5_anew_1 : decode cX5_anew 1 = .ok (.aload_n 0, 1) := by decide +kernel
theorem dX5_anew_2 : decode cX5_anew 2 = .ok (.getfield 27, 3) := by decide +kernel
theorem dX5_anew_5 : decode cX5_anew 5 = .ok (.iload_n 1, 1) := by decide +kernel
theorem dX5_anew_6 : decode cX5_anew 6 = .ok (.iaload, 1) := by decide +kernel
theorem dX5_anew_7 : decode cX5_anew 7 = .ok (.invokevirtual 151, 3) := by decide +kernel
theorem dX5_anew_10 : decode cX5_anew 10 = .ok (.istore_n 2, 1) := by decide +kernel
theorem dX5_anew_11 : decode cX5_anew 11 = .ok (.aload_n 0, 1) := by decide +kernel
theorem dX5_anew_12 : decode cX5_anew 12 = .ok (.getfield 30, 3) := by decide +kernel
theorem dX5_anew_15 : decode cX5_anew 15 = .ok (.iload_n 1, 1) := by decide +kernel
theorem dX5_anew_16 : decode cX5_anew 16 = .ok (.iaload, 1) := by decide +kernel
theorem dX5_anew_17 : decode cX5_anew 17 = .ok (.ifCond .ge 7, 3) := by decide +kernel
theorem dX5_anew_20 : decode cX5_anew 20 = .ok (.iconst 0, 1) := by decide +kernel
theorem dX5_anew_21 : decode cX5_anew 21 = .ok (.goto 13, 3) := by decide +kernel
theorem dX5_anew_24 : decode cX5_anew 24 = .ok (.aload_n 0, 1) := by decide +kernel
theorem dX5_anew_25 : decode cX5_anew 25 = .ok (.aload_n 0, 1) := by decide +kernel
theorem dX5_anew_26 : decode cX5_anew 26 = .ok (.getfield 30, 3) := by decide +kernel
theorem dX5_anew_29 : decode cX5_anew 29 = .ok (.iload_n 1, 1) := by decide +kernel
theorem dX5_anew_30 : decode cX5_anew 30 = .ok (.iaload, 1) := by decide +kernel
theorem dX5_anew_31 : decode cX5_anew 31 = .ok (.invokevirtual 151, 3) := by decide +kernel
