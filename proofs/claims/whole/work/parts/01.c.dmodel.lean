theorem dX10_init_0 : decode cX10_init 0 = .ok (.aload_n 0, 1) := by decide +kernel
theorem dX10_init_1 : decode cX10_init 1 = .ok (.invokespecial 1, 3) := by decide +kernel
theorem dX10_init_4 : decode cX10_init 4 = .ok (.aload_n 0, 1) := by decide +kernel
theorem dX10_init_5 : decode cX10_init 5 = .ok (.bipush 40, 2) := by decide +kernel
theorem dX10_init_7 : decode cX10_init 7 = .ok (.newarray .int, 2) := by decide +kernel
theorem dX10_init_9 : decode cX10_init 9 = .ok (.putfield 7, 3) := by decide +kernel
theorem dX10_init_12 : decode cX10_init 12 = .ok (.aload_n 0, 1) := by decide +kernel
theorem dX10_init_13 : decode cX10_init 13 = .ok (.bipush 40, 2) := by decide +kernel
theorem dX10_init_15 : decode cX10_init 15 = .ok (.newarray .int, 2) := by decide +kernel
theorem dX10_init_17 : decode cX10_init 17 = .ok (.putfield 13, 3) := by decide +kernel
theorem dX10_init_20 : decode cX10_init 20 = .ok (.aload_n 0, 1) := by decide +kernel
theorem dX10_init_21 : decode cX10_init 21 = .ok (.bipush 16, 2) := by decide +kernel
theorem dX10_init_23 : decode cX10_init 23 = .ok (.newarray .int, 2) := by decide +kernel
theorem dX10_init_25 : decode cX10_init 25 = .ok (.putfield 16, 3) := by decide +kernel
theorem dX10_init_28 : decode cX10_init 28 = .ok (.aload_n 0, 1) := by decide +kernel
theorem dX10_init_29 : decode cX10_init 29 = .ok (.bipush 16, 2) := by decide +kernel
theorem dX10_init_31 : decode cX10_init 31 = .ok (.newarray .int, 2) := by decide +kernel
theorem dX10_init_33 : decode cX10_init 33 = .ok (.putfield 19, 3) := by decide +kernel
theorem dX10_init_36 : decode cX10_init 36 = .ok (.aload_n 0, 1) := by decide +kernel
theorem dX10_init_37 : decode cX10_init 37 = .ok (.bipush 16, 2) := by decide +kernel
theorem dX10_init_39 : decode cX10_init 39 = .ok (.newarray .boolean, 2) := by decide +kernel
theorem dX10_init_41 : decode cX10_init 41 = .ok (.putfield 22, 3) := by decide +kernel
theorem dX10_init_44 : decode cX10_init 44 = .ok (.aload_n 0, 1) := by decide +kernel
theorem dX10_init_45 : decode cX10_init 45 = .ok (.sipush 640, 3) := by decide +kernel
theorem dX10_init_48 : decode cX10_init 48 = .ok (.newarray .int, 2) := by decide +kernel
theorem dX10_init_50 : decode cX10_init 50 = .ok (.putfield 26, 3) := by decide +kernel
theorem dX10_init_53 : decode cX10_init 53 = .ok (.aload_n 0, 1) := by decide +kernel
theorem dX10_init_54 : decode cX10_init 54 = .ok (.sipush 640, 3) := by decide +kernel
theorem dX10_init_57 : decode cX10_init 57 = .ok (.newarray .int, 2) := by decide +kernel
theorem dX10_init_59 : decode cX10_init 59 = .ok (.putfield 29, 3) := by decide +kernel
theorem dX10_init_62 : decode cX10_init 62 = .ok (.aload_n 0, 1) := by decide +kernel
theorem dX10_init_63 : decode cX10_init 63 = .ok (.sipush 640, 3) := by decide +kernel
theorem dX10_init_66 : decode cX10_init 66 = .ok (.newarray .int, 2) := by decide +kernel
theorem dX10_init_68 : decode cX10_init 68 = .ok (.putfield 32, 3) := by decide +kernel
theorem dX10_init_71 : decode cX10_init 71 = .ok (.aload_n 0, 1) := by decide +kernel
theorem dX10_init_72 : decode cX10_init 72 = .ok (.bipush 41, 2) := by decide +kernel
theorem dX10_init_74 : decode cX10_init 74 = .ok (.newarray .int, 2) := by decide +kernel
theorem dX10_init_76 : decode cX10_init 76 = .ok (.putfield 35, 3) := by decide +kernel
theorem dX10_init_79 : decode cX10_init 79 = .ok (.aload_n 0, 1) := by decide +kernel
theorem dX10_init_80 : decode cX10_init 80 = .ok (.bipush 41, 2) := by decide +kernel
theorem dX10_init_82 : decode cX10_init 82 = .ok (.newarray .int, 2) := by decide +kernel
theorem dX10_init_84 : decode cX10_init 84 = .ok (.putfield 38, 3) := by decide +kernel
theorem dX10_init_87 : decode cX10_init 87 = .ok (.aload_n 0, 1) := by decide +kernel
theorem dX10_init_88 : decode cX10_init 88 = .ok (.bipush 41, 2) := by decide +kernel
theorem dX10_init_90 : decode cX10_init 90 = .ok (.newarray .int, 2) := by decide +kernel
theorem dX10_init_92 : decode cX10_init 92 = .ok (.putfield 41, 3) := by decide +kernel
theorem dX10_init_95 : decode cX10_init 95 = .ok (.aload_n 0, 1) := by decide +kernel
theorem dX10_init_96 : decode cX10_init 96 = .ok (.bipush 41, 2) := by decide +kernel
theorem dX10_init_98 : decode cX10_init 98 = .ok (.newarray .boolean, 2) := by decide +kernel
theorem dX10_init_100 : decode cX10_init 100 = .ok (.putfield 44, 3) := by decide +kernel
theorem dX10_init_103 : decode cX10_init 103 = .ok (.aload_n 0, 1) := by decide +kernel
theorem dX10_init_104 : decode cX10_init 104 = .ok (.bipush 6, 2) := by decide +kernel
theorem dX10_init_106 : decode cX10_init 106 = .ok (.newarray .int, 2) := by decide +kernel
theorem dX10_init_108 : decode cX10_init 108 = .ok (.putfield 47, 3) := by decide +kernel
theorem dX10_init_111 : decode cX10_init 111 = .ok (.aload_n 0, 1) := by decide +kernel
theorem dX10_init_112 : decode cX10_init 112 = .ok (.bipush 6, 2) := by decide +kernel
theorem dX10_init_114 : decode cX10_init 114 = .ok (.newarray .int, 2) := by decide +kernel
theorem dX10_init_116 : decode cX10_init 116 = .ok (.putfield 50, 3) := by decide +kernel
theorem dX10_init_119 : decode cX10_init 119 = .ok (.aload_n 0, 1) := by decide +kernel
theorem dX10_init_120 : decode cX10_init 120 = .ok (.sipush 640, 3) := by decide +kernel
theorem dX10_init_123 : decode cX10_init 123 = .ok (.newarray .int, 2) := by decide +kernel
theorem dX10_init_125 : decode cX10_init 125 = .ok (.putfield 53, 3) := by decide +kernel
theorem dX10_init_128 : decode cX10_init 128 = .ok (.aload_n 0, 1) := by decide +kernel
theorem dX10_init_129 : decode cX10_init 129 = .ok (.sipush 640, 3) := by decide +kernel
theorem dX10_init_132 : decode cX10_init 132 = .ok (.newarray .int, 2) := by decide +kernel
theorem dX10_init_134 : decode cX10_init 134 = .ok (.putfield 56, 3) := by decide +kernel
theorem dX10_init_137 : decode cX10_init 137 = .ok (.aload_n 0, 1) := by decide +kernel
theorem dX10_init_138 : decode cX10_init 138 = .ok (.sipush 640, 3) := by decide +kernel
theorem dX10_init_141 : decode cX10_init 141 = .ok (.newarray .int, 2) := by decide +kernel
theorem dX10_init_143 : decode cX10_init 143 = .ok (.putfield 59, 3) := by decide +kernel
theorem dX10_init_146 : decode cX10_init 146 = .ok (.aload_n 0, 1) := by decide +kernel
theorem dX10_init_147 : decode cX10_init 147 = .ok (.bipush 16, 2) := by decide +kernel
theorem dX10_init_149 : decode cX10_init 149 = .ok (.newarray .boolean, 2) := by decide +kernel
theorem dX10_init_151 : decode cX10_init 151 = .ok (.putfield 62, 3) := by decide +kernel
theorem dX10_init_154 : decode cX10_init 154 = .ok (.aload_n 0, 1) := by decide +kernel
theorem dX10_init_155 : decode cX10_init 155 = .ok (.sipush 640, 3) := by decide +kernel
theorem dX10_init_158 : decode cX10_init 158 = .ok (.newarray .int, 2) := by decide +kernel
theorem dX10_init_160 : decode cX10_init 160 = .ok (.putfield 65, 3) := by decide +kernel
theorem dX10_init_163 : decode cX10_init 163 = .ok (.aload_n 0, 1) := by decide +kernel
theorem dX10_init_164 : decode cX10_init 164 = .ok (.sipush 640, 3) := by decide +kernel
theorem dX10_init_167 : decode cX10_init 167 = .ok (.newarray .boolean, 2) := by decide +kernel
theorem dX10_init_169 : decode cX10_init 169 = .ok (.putfield 68, 3) := by decide +kernel
theorem dX10_init_172 : decode cX10_init 172 = .ok (.aload_n 0, 1) := by decide +kernel
theorem dX10_init_173 : decode cX10_init 173 = .ok (.bipush 40, 2) := by decide +kernel
theorem dX10_init_175 : decode cX10_init 175 = .ok (.newarray .int, 2) := by decide +kernel
theorem dX10_init_177 : decode cX10_init 177 = .ok (.putfield 71, 3) := by decide +kernel
theorem dX10_init_180 : decode cX10_init 180 = .ok (.aload_n 0, 1) := by decide +kernel
theorem dX10_init_181 : decode cX10_init 181 = .ok (.bipush 40, 2) := by decide +kernel
theorem dX10_init_183 : decode cX10_init 183 = .ok (.newarray .int, 2) := by decide +kernel
theorem dX10_init_185 : decode cX10_init 185 = .ok (.putfield 74, 3) := by decide +kernel
theorem dX10_init_188 : decode cX10_init 188 = .ok (.aload_n 0, 1) := by decide +kernel
theorem dX10_init_189 : decode cX10_init 189 = .ok (.bipush 40, 2) := by decide +kernel
theorem dX10_init_191 : decode cX10_init 191 = .ok (.newarray .int, 2) := by decide +kernel
theorem dX10_init_193 : decode cX10_init 193 = .ok (.putfield 77, 3) := by decide +kernel
theorem dX10_init_196 : decode cX10_init 196 = .ok (.aload_n 0, 1) := by decide +kernel
theorem dX10_init_197 : decode cX10_init 197 = .ok (.bipush 40, 2) := by decide +kernel
theorem dX10_init_199 : decode cX10_init 199 = .ok (.newarray .int, 2) := by decide +kernel
theorem dX10_init_201 : decode cX10_init 201 = .ok (.putfield 80, 3) := by decide +kernel
theorem dX10_init_204 : decode cX10_init 204 = .ok (.aload_n 0, 1) := by decide +kernel
theorem dX10_init_205 : decode cX10_init 205 = .ok (.bipush 40, 2) := by decide +kernel
theorem dX10_init_207 : decode cX10_init 207 = .ok (.newarray .int, 2) := by decide +kernel
theorem dX10_init_209 : decode cX10_init 209 = .ok (.putfield 83, 3) := by decide +kernel
theorem dX10_init_212 : decode cX10_init 212 = .ok (.aload_n 0, 1) := by decide +kernel
theorem dX10_init_213 : decode cX10_init 213 = .ok (.sipush 12000, 3) := by decide +kernel
theorem dX10_init_216 : decode cX10_init 216 = .ok (.newarray .int, 2) := by decide +kernel
theorem dX10_init_218 : decode cX10_init 218 = .ok (.putfield 86, 3) := by decide +kernel
theorem dX10_init_221 : decode cX10_init 221 = .ok (.return_, 1) := by decide +kernel
theorem dX10_thrown_0 : decode cX10_thrown 0 = .ok (.aload_n 0, 1) := by decide +kernel
theorem dX10_thrown_1 : decode cX10_thrown 1 = .ok (.getfield 89, 3) := by decide +kernel
theorem dX10_thrown_4 : decode cX10_thrown 4 = .ok (.ireturn, 1) := by decide +kernel
theorem dX10_in_0 : decode cX10_in 0 = .ok (.iload_n 0, 1) := by decide +kernel
theorem dX10_in_1 : decode cX10_in 1 = .ok (.iload_n 1, 1) := by decide +kernel
theorem dX10_in_2 : decode cX10_in 2 = .ok (.if_icmp .lt 12, 3) := by decide +kernel
theorem dX10_in_5 : decode cX10_in 5 = .ok (.iload_n 0, 1) := by decide +kernel
theorem dX10_in_6 : decode cX10_in 6 = .ok (.iload_n 2, 1) := by decide +kernel
theorem dX10_in_7 : decode cX10_in 7 = .ok (.if_icmp .gt 7, 3) := by decide +kernel
theorem dX10_in_10 : decode cX10_in 10 = .ok (.iconst 1, 1) := by decide +kernel
theorem dX10_in_11 : decode cX10_in 11 = .ok (.goto 4, 3) := by decide +kernel
theorem dX10_in_14 : decode cX10_in 14 = .ok (.iconst 0, 1) := by decide +kernel
theorem dX10_in_15 : decode cX10_in 15 = .ok (.ireturn, 1) := by decide +kernel
theorem dX10_isOf_0 : decode cX10_isOf 0 = .ok (.aload_n 0, 1) := by decide +kernel
theorem dX10_isOf_1 : decode cX10_isOf 1 = .ok (.getfield 19, 3) := by decide +kernel
theorem dX10_isOf_4 : decode cX10_isOf 4 = .ok (.iload_n 1, 1) := by decide +kernel
theorem dX10_isOf_5 : decode cX10_isOf 5 = .ok (.iaload, 1) := by decide +kernel
theorem dX10_isOf_6 : decode cX10_isOf 6 = .ok (.ifCond .eq 18, 3) := by decide +kernel
theorem dX10_isOf_9 : decode cX10_isOf 9 = .ok (.aload_n 0, 1) := by decide +kernel
theorem dX10_isOf_10 : decode cX10_isOf 10 = .ok (.getfield 19, 3) := by decide +kernel
theorem dX10_isOf_13 : decode cX10_isOf 13 = .ok (.iload_n 1, 1) := by decide +kernel
theorem dX10_isOf_14 : decode cX10_isOf 14 = .ok (.iaload, 1) := by decide +kernel
theorem dX10_isOf_15 : decode cX10_isOf 15 = .ok (.aload_n 0, 1) := by decide +kernel
theorem dX10_isOf_16 : decode cX10_isOf 16 = .ok (.getfield 13, 3) := by decide +kernel
theorem dX10_isOf_19 : decode cX10_isOf 19 = .ok (.iload_n 2, 1) := by decide +kernel
theorem dX10_isOf_20 : decode cX10_isOf 20 = .ok (.iaload, 1) := by decide +kernel
theorem dX10_isOf_21 : decode cX10_isOf 21 = .ok (.if_icmp .ne 7, 3) := by decide +kernel
theorem dX10_isOf_24 : decode cX10_isOf 24 = .ok (.iconst 1, 1) := by decide +kernel
theorem dX10_isOf_25 : decode cX10_isOf 25 = .ok (.goto 4, 3) := by decide +kernel
theorem dX10_isOf_28 : decode cX10_isOf 28 = .ok (.iconst 0, 1) := by decide +kernel
theorem dX10_isOf_29 : decode cX10_isOf 29 = .ok (.ireturn, 1) := by decide +kernel
theorem dX10_latest_0 : decode cX10_latest 0 = .ok (.iconst (-1), 1) := by decide +kernel
theorem dX10_latest_1 : decode cX10_latest 1 = .ok (.istore_n 2, 1) := by decide +kernel
theorem dX10_latest_2 : decode cX10_latest 2 = .ok (.iconst 0, 1) := by decide +kernel
theorem dX10_latest_3 : decode cX10_latest 3 = .ok (.istore_n 3, 1) := by decide +kernel
theorem dX10_latest_4 : decode cX10_latest 4 = .ok (.iload_n 3, 1) := by decide +kernel
theorem dX10_latest_5 : decode cX10_latest 5 = .ok (.aload_n 0, 1) := by decide +kernel
theorem dX10_latest_6 : decode cX10_latest 6 = .ok (.getfield 93, 3) := by decide +kernel
theorem dX10_latest_9 : decode cX10_latest 9 = .ok (.if_icmp .ge 34, 3) := by decide +kernel
theorem dX10_latest_12 : decode cX10_latest 12 = .ok (.aload_n 0, 1) := by decide +kernel
theorem dX10_latest_13 : decode cX10_latest 13 = .ok (.getfield 35, 3) := by decide +kernel
theorem dX10_latest_16 : decode cX10_latest 16 = .ok (.iload_n 3, 1) := by decide +kernel
theorem dX10_latest_17 : decode cX10_latest 17 = .ok (.iaload, 1) := by decide +kernel
theorem dX10_latest_18 : decode cX10_latest 18 = .ok (.iload_n 1, 1) := by decide +kernel
theorem dX10_latest_19 : decode cX10_latest 19 = .ok (.if_icmp .ne 16, 3) := by decide +kernel
theorem dX10_latest_22 : decode cX10_latest 22 = .ok (.aload_n 0, 1) := by decide +kernel
theorem dX10_latest_23 : decode cX10_latest 23 = .ok (.getfield 44, 3) := by decide +kernel
theorem dX10_latest_26 : decode cX10_latest 26 = .ok (.iload_n 3, 1) := by decide +kernel
theorem dX10_latest_27 : decode cX10_latest 27 = .ok (.baload, 1) := by decide +kernel
theorem dX10_latest_28 : decode cX10_latest 28 = .ok (.ifCond .ne 7, 3) := by decide +kernel
theorem dX10_latest_31 : decode cX10_latest 31 = .ok (.iload_n 3, 1) := by decide +kernel
theorem dX10_latest_32 : decode cX10_latest 32 = .ok (.goto 4, 3) := by decide +kernel
theorem dX10_latest_35 : decode cX10_latest 35 = .ok (.iload_n 2, 1) := by decide +kernel
theorem dX10_latest_36 : decode cX10_latest 36 = .ok (.istore_n 2, 1) := by decide +kernel
theorem dX10_latest_37 : decode cX10_latest 37 = .ok (.iinc 3 1, 3) := by decide +kernel
theorem dX10_latest_40 : decode cX10_latest 40 = .ok (.goto (-36), 3) := by decide +kernel
theorem dX10_latest_43 : decode cX10_latest 43 = .ok (.aload_n 0, 1) := by decide +kernel
theorem dX10_latest_44 : decode cX10_latest 44 = .ok (.getfield 96, 3) := by decide +kernel
theorem dX10_latest_47 : decode cX10_latest 47 = .ok (.iconst 1, 1) := by decide +kernel
theorem dX10_latest_48 : decode cX10_latest 48 = .ok (.if_icmp .ne 19, 3) := by decide +kernel
theorem dX10_latest_51 : decode cX10_latest 51 = .ok (.aload_n 0, 1) := by decide +kernel
theorem dX10_latest_52 : decode cX10_latest 52 = .ok (.getfield 35, 3) := by decide +kernel
theorem dX10_latest_55 : decode cX10_latest 55 = .ok (.bipush 40, 2) := by decide +kernel
theorem dX10_latest_57 : decode cX10_latest 57 = .ok (.iaload, 1) := by decide +kernel
theorem dX10_latest_58 : decode cX10_latest 58 = .ok (.iload_n 1, 1) := by decide +kernel
theorem dX10_latest_59 : decode cX10_latest 59 = .ok (.if_icmp .ne 8, 3) := by decide +kernel
theorem dX10_latest_62 : decode cX10_latest 62 = .ok (.bipush 40, 2) := by decide +kernel
theorem dX10_latest_64 : decode cX10_latest 64 = .ok (.goto 4, 3) := by decide +kernel
theorem dX10_latest_67 : decode cX10_latest 67 = .ok (.iload_n 2, 1) := by decide +kernel
theorem dX10_latest_68 : decode cX10_latest 68 = .ok (.ireturn, 1) := by decide +kernel
theorem dX10_look_0 : decode cX10_look 0 = .ok (.iconst 0, 1) := by decide +kernel
theorem dX10_look_1 : decode cX10_look 1 = .ok (.istore_n 1, 1) := by decide +kernel
theorem dX10_look_2 : decode cX10_look 2 = .ok (.iload_n 1, 1) := by decide +kernel
theorem dX10_look_3 : decode cX10_look 3 = .ok (.aload_n 0, 1) := by decide +kernel
theorem dX10_look_4 : decode cX10_look 4 = .ok (.getfield 99, 3) := by decide +kernel
theorem dX10_look_7 : decode cX10_look 7 = .ok (.if_icmp .ge 203, 3) := by decide +kernel
theorem dX10_look_10 : decode cX10_look 10 = .ok (.aload_n 0, 1) := by decide +kernel
theorem dX10_look_11 : decode cX10_look 11 = .ok (.getfield 62, 3) := by decide +kernel
theorem dX10_look_14 : decode cX10_look 14 = .ok (.iload_n 1, 1) := by decide +kernel
theorem dX10_look_15 : decode cX10_look 15 = .ok (.iconst 0, 1) := by decide +kernel
theorem dX10_look_16 : decode cX10_look 16 = .ok (.bastore, 1) := by decide +kernel
theorem dX10_look_17 : decode cX10_look 17 = .ok (.iconst 0, 1) := by decide +kernel
theorem dX10_look_18 : decode cX10_look 18 = .ok (.istore_n 2, 1) := by decide +kernel
theorem dX10_look_19 : decode cX10_look 19 = .ok (.iload_n 2, 1) := by decide +kernel
theorem dX10_look_20 : decode cX10_look 20 = .ok (.aload_n 0, 1) := by decide +kernel
theorem dX10_look_21 : decode cX10_look 21 = .ok (.getfield 102, 3) := by decide +kernel
theorem dX10_look_24 : decode cX10_look 24 = .ok (.if_icmp .ge 151, 3) := by decide +kernel
theorem dX10_look_27 : decode cX10_look 27 = .ok (.bipush 40, 2) := by decide +kernel
theorem dX10_look_29 : decode cX10_look 29 = .ok (.iload_n 1, 1) := by decide +kernel
theorem dX10_look_30 : decode cX10_look 30 = .ok (.imul, 1) := by decide +kernel
theorem dX10_look_31 : decode cX10_look 31 = .ok (.iload_n 2, 1) := by decide +kernel
theorem dX10_look_32 : decode cX10_look 32 = .ok (.iadd, 1) := by decide +kernel
theorem dX10_look_33 : decode cX10_look 33 = .ok (.istore_n 3, 1) := by decide +kernel
theorem dX10_look_34 : decode cX10_look 34 = .ok (.aload_n 0, 1) := by decide +kernel
theorem dX10_look_35 : decode cX10_look 35 = .ok (.iload_n 3, 1) := by decide +kernel
theorem dX10_look_36 : decode cX10_look 36 = .ok (.invokevirtual 105, 3) := by decide +kernel
theorem dX10_look_39 : decode cX10_look 39 = .ok (.istore 4, 2) := by decide +kernel
theorem dX10_look_41 : decode cX10_look 41 = .ok (.aload_n 0, 1) := by decide +kernel
theorem dX10_look_42 : decode cX10_look 42 = .ok (.getfield 53, 3) := by decide +kernel
theorem dX10_look_45 : decode cX10_look 45 = .ok (.iload_n 3, 1) := by decide +kernel
theorem dX10_look_46 : decode cX10_look 46 = .ok (.iload 4, 2) := by decide +kernel
theorem dX10_look_48 : decode cX10_look 48 = .ok (.ifCond .ge 12, 3) := by decide +kernel
theorem dX10_look_51 : decode cX10_look 51 = .ok (.aload_n 0, 1) := by decide +kernel
theorem dX10_look_52 : decode cX10_look 52 = .ok (.getfield 26, 3) := by decide +kernel
theorem dX10_look_55 : decode cX10_look 55 = .ok (.iload_n 3, 1) := by decide +kernel
theorem dX10_look_56 : decode cX10_look 56 = .ok (.iaload, 1) := by decide +kernel
theorem dX10_look_57 : decode cX10_look 57 = .ok (.goto 25, 3) := by decide +kernel
theorem dX10_look_60 : decode cX10_look 60 = .ok (.aload_n 0, 1) := by decide +kernel
theorem dX10_look_61 : decode cX10_look 61 = .ok (.getfield 38, 3) := by decide +kernel
theorem dX10_look_64 : decode cX10_look 64 = .ok (.iload 4, 2) := by decide +kernel
theorem dX10_look_66 : decode cX10_look 66 = .ok (.iaload, 1) := by decide +kernel
theorem dX10_look_67 : decode cX10_look 67 = .ok (.ifCond .ne 8, 3) := by decide +kernel
theorem dX10_look_70 : decode cX10_look 70 = .ok (.bipush 9, 2) := by decide +kernel
theorem dX10_look_72 : decode cX10_look 72 = .ok (.goto 10, 3) := by decide +kernel
theorem dX10_look_75 : decode cX10_look 75 = .ok (.aload_n 0, 1) := by decide +kernel
theorem dX10_look_76 : decode cX10_look 76 = .ok (.getfield 38, 3) := by decide +kernel
theorem dX10_look_79 : decode cX10_look 79 = .ok (.iload 4, 2) := by decide +kernel
theorem dX10_look_81 : decode cX10_look 81 = .ok (.iaload, 1) := by decide +kernel
theorem dX10_look_82 : decode cX10_look 82 = .ok (.iastore, 1) := by decide +kernel
theorem dX10_look_83 : decode cX10_look 83 = .ok (.aload_n 0, 1) := by decide +kernel
theorem dX10_look_84 : decode cX10_look 84 = .ok (.getfield 56, 3) := by decide +kernel
theorem dX10_look_87 : decode cX10_look 87 = .ok (.iload_n 3, 1) := by decide +kernel
theorem dX10_look_88 : decode cX10_look 88 = .ok (.iload 4, 2) := by decide +kernel
theorem dX10_look_90 : decode cX10_look 90 = .ok (.ifCond .ge 12, 3) := by decide +kernel
theorem dX10_look_93 : decode cX10_look 93 = .ok (.aload_n 0, 1) := by decide +kernel
theorem dX10_look_94 : decode cX10_look 94 = .ok (.getfield 29, 3) := by decide +kernel
theorem dX10_look_97 : decode cX10_look 97 = .ok (.iload_n 3, 1) := by decide +kernel
theorem dX10_look_98 : decode cX10_look 98 = .ok (.iaload, 1) := by decide +kernel
theorem dX10_look_99 : decode cX10_look 99 = .ok (.goto 10, 3) := by decide +kernel
theorem dX10_look_102 : decode cX10_look 102 = .ok (.aload_n 0, 1) := by decide +kernel
theorem dX10_look_103 : decode cX10_look 103 = .ok (.getfield 41, 3) := by decide +kernel
theorem dX10_look_106 : decode cX10_look 106 = .ok (.iload 4, 2) := by decide +kernel
theorem dX10_look_108 : decode cX10_look 108 = .ok (.iaload, 1) := by decide +kernel
theorem dX10_look_109 : decode cX10_look 109 = .ok (.iastore, 1) := by decide +kernel
theorem dX10_look_110 : decode cX10_look 110 = .ok (.aload_n 0, 1) := by decide +kernel
theorem dX10_look_111 : decode cX10_look 111 = .ok (.getfield 59, 3) := by decide +kernel
theorem dX10_look_114 : decode cX10_look 114 = .ok (.iload_n 3, 1) := by decide +kernel
theorem dX10_look_115 : decode cX10_look 115 = .ok (.iload 4, 2) := by decide +kernel
theorem dX10_look_117 : decode cX10_look 117 = .ok (.ifCond .ge 12, 3) := by decide +kernel
theorem dX10_look_120 : decode cX10_look 120 = .ok (.aload_n 0, 1) := by decide +kernel
theorem dX10_look_121 : decode cX10_look 121 = .ok (.getfield 32, 3) := by decide +kernel
theorem dX10_look_124 : decode cX10_look 124 = .ok (.iload_n 3, 1) := by decide +kernel
theorem dX10_look_125 : decode cX10_look 125 = .ok (.iaload, 1) := by decide +kernel
theorem dX10_look_126 : decode cX10_look 126 = .ok (.goto 4, 3) := by decide +kernel
theorem dX10_look_129 : decode cX10_look 129 = .ok (.iconst 0, 1) := by decide +kernel
theorem dX10_look_130 : decode cX10_look 130 = .ok (.iastore, 1) := by decide +kernel
theorem dX10_look_131 : decode cX10_look 131 = .ok (.aload_n 0, 1) := by decide +kernel
theorem dX10_look_132 : decode cX10_look 132 = .ok (.getfield 62, 3) := by decide +kernel
theorem dX10_look_135 : decode cX10_look 135 = .ok (.iload_n 1, 1) := by decide +kernel
theorem dX10_look_136 : decode cX10_look 136 = .ok (.aload_n 0, 1) := by decide +kernel
theorem dX10_look_137 : decode cX10_look 137 = .ok (.getfield 62, 3) := by decide +kernel
theorem dX10_look_140 : decode cX10_look 140 = .ok (.iload_n 1, 1) := by decide +kernel
theorem dX10_look_141 : decode cX10_look 141 = .ok (.baload, 1) := by decide +kernel
theorem dX10_look_142 : decode cX10_look 142 = .ok (.ifCond .ne 21, 3) := by decide +kernel
theorem dX10_look_145 : decode cX10_look 145 = .ok (.aload_n 0, 1) := by decide +kernel
theorem dX10_look_146 : decode cX10_look 146 = .ok (.iload_n 1, 1) := by decide +kernel
theorem dX10_look_147 : decode cX10_look 147 = .ok (.iload_n 2, 1) := by decide +kernel
theorem dX10_look_148 : decode cX10_look 148 = .ok (.invokevirtual 109, 3) := by decide +kernel
theorem dX10_look_151 : decode cX10_look 151 = .ok (.ifCond .eq 16, 3) := by decide +kernel
theorem dX10_look_154 : decode cX10_look 154 = .ok (.aload_n 0, 1) := by decide +kernel
theorem dX10_look_155 : decode cX10_look 155 = .ok (.getfield 53, 3) := by decide +kernel
theorem dX10_look_158 : decode cX10_look 158 = .ok (.iload_n 3, 1) := by decide +kernel
theorem dX10_look_159 : decode cX10_look 159 = .ok (.iaload, 1) := by decide +kernel
theorem dX10_look_160 : decode cX10_look 160 = .ok (.ifCond .eq 7, 3) := by decide +kernel
theorem dX10_look_163 : decode cX10_look 163 = .ok (.iconst 1, 1) := by decide +kernel
theorem dX10_look_164 : decode cX10_look 164 = .ok (.goto 4, 3) := by decide +kernel
theorem dX10_look_167 : decode cX10_look 167 = .ok (.iconst 0, 1) := by decide +kernel
theorem dX10_look_168 : decode cX10_look 168 = .ok (.bastore, 1) := by decide +kernel
theorem dX10_look_169 : decode cX10_look 169 = .ok (.iinc 2 1, 3) := by decide +kernel
theorem dX10_look_172 : decode cX10_look 172 = .ok (.goto (-153), 3) := by decide +kernel
theorem dX10_look_175 : decode cX10_look 175 = .ok (.aload_n 0, 1) := by decide +kernel
theorem dX10_look_176 : decode cX10_look 176 = .ok (.getfield 62, 3) := by decide +kernel
theorem dX10_look_179 : decode cX10_look 179 = .ok (.iload_n 1, 1) := by decide +kernel
theorem dX10_look_180 : decode cX10_look 180 = .ok (.aload_n 0, 1) := by decide +kernel
theorem dX10_look_181 : decode cX10_look 181 = .ok (.getfield 62, 3) := by decide +kernel
theorem dX10_look_184 : decode cX10_look 184 = .ok (.iload_n 1, 1) := by decide +kernel
theorem dX10_look_185 : decode cX10_look 185 = .ok (.baload, 1) := by decide +kernel
theorem dX10_look_186 : decode cX10_look 186 = .ok (.ifCond .eq 16, 3) := by decide +kernel
theorem dX10_look_189 : decode cX10_look 189 = .ok (.aload_n 0, 1) := by decide +kernel
theorem dX10_look_190 : decode cX10_look 190 = .ok (.getfield 22, 3) := by decide +kernel
theorem dX10_look_193 : decode cX10_look 193 = .ok (.iload_n 1, 1) := by decide +kernel
theorem dX10_look_194 : decode cX10_look 194 = .ok (.baload, 1) := by decide +kernel
theorem dX10_look_195 : decode cX10_look 195 = .ok (.ifCond .ne 7, 3) := by decide +kernel
theorem dX10_look_198 : decode cX10_look 198 = .ok (.iconst 1, 1) := by decide +kernel
theorem dX10_look_199 : decode cX10_look 199 = .ok (.goto 4, 3) := by decide +kernel
theorem dX10_look_202 : decode cX10_look 202 = .ok (.iconst 0, 1) := by decide +kernel
theorem dX10_look_203 : decode cX10_look 203 = .ok (.bastore, 1) := by decide +kernel
theorem dX10_look_204 : decode cX10_look 204 = .ok (.iinc 1 1, 3) := by decide +kernel
theorem dX10_look_207 : decode cX10_look 207 = .ok (.goto (-205), 3) := by decide +kernel
theorem dX10_look_210 : decode cX10_look 210 = .ok (.return_, 1) := by decide +kernel
theorem dX10_isIn_0 : decode cX10_isIn 0 = .ok (.aload_n 0, 1) := by decide +kernel
theorem dX10_isIn_1 : decode cX10_isIn 1 = .ok (.getfield 62, 3) := by decide +kernel
theorem dX10_isIn_4 : decode cX10_isIn 4 = .ok (.iload_n 1, 1) := by decide +kernel
theorem dX10_isIn_5 : decode cX10_isIn 5 = .ok (.baload, 1) := by decide +kernel
theorem dX10_isIn_6 : decode cX10_isIn 6 = .ok (.ifCond .eq 16, 3) := by decide +kernel
theorem dX10_isIn_9 : decode cX10_isIn 9 = .ok (.aload_n 0, 1) := by decide +kernel
theorem dX10_isIn_10 : decode cX10_isIn 10 = .ok (.iload_n 1, 1) := by decide +kernel
theorem dX10_isIn_11 : decode cX10_isIn 11 = .ok (.iload_n 2, 1) := by decide +kernel
theorem dX10_isIn_12 : decode cX10_isIn 12 = .ok (.invokevirtual 109, 3) := by decide +kernel
theorem dX10_isIn_15 : decode cX10_isIn 15 = .ok (.ifCond .eq 7, 3) := by decide +kernel
theorem dX10_isIn_18 : decode cX10_isIn 18 = .ok (.iconst 1, 1) := by decide +kernel
theorem dX10_isIn_19 : decode cX10_isIn 19 = .ok (.goto 4, 3) := by decide +kernel
theorem dX10_isIn_22 : decode cX10_isIn 22 = .ok (.iconst 0, 1) := by decide +kernel
theorem dX10_isIn_23 : decode cX10_isIn 23 = .ok (.ireturn, 1) := by decide +kernel
theorem dX10_sizeOf_0 : decode cX10_sizeOf 0 = .ok (.iconst 0, 1) := by decide +kernel
theorem dX10_sizeOf_1 : decode cX10_sizeOf 1 = .ok (.istore_n 2, 1) := by decide +kernel
theorem dX10_sizeOf_2 : decode cX10_sizeOf 2 = .ok (.iconst 0, 1) := by decide +kernel
theorem dX10_sizeOf_3 : decode cX10_sizeOf 3 = .ok (.istore_n 3, 1) := by decide +kernel
theorem dX10_sizeOf_4 : decode cX10_sizeOf 4 = .ok (.iload_n 3, 1) := by decide +kernel
theorem dX10_sizeOf_5 : decode cX10_sizeOf 5 = .ok (.aload_n 0, 1) := by decide +kernel
theorem dX10_sizeOf_6 : decode cX10_sizeOf 6 = .ok (.getfield 102, 3) := by decide +kernel
theorem dX10_sizeOf_9 : decode cX10_sizeOf 9 = .ok (.if_icmp .ge 26, 3) := by decide +kernel
theorem dX10_sizeOf_12 : decode cX10_sizeOf 12 = .ok (.iload_n 2, 1) := by decide +kernel
theorem dX10_sizeOf_13 : decode cX10_sizeOf 13 = .ok (.aload_n 0, 1) := by decide +kernel
theorem dX10_sizeOf_14 : decode cX10_sizeOf 14 = .ok (.iload_n 1, 1) := by decide +kernel
theorem dX10_sizeOf_15 : decode cX10_sizeOf 15 = .ok (.iload_n 3, 1) := by decide +kernel
theorem dX10_sizeOf_16 : decode cX10_sizeOf 16 = .ok (.invokevirtual 109, 3) := by decide +kernel
theorem dX10_sizeOf_19 : decode cX10_sizeOf 19 = .ok (.ifCond .eq 7, 3) := by decide +kernel
theorem dX10_sizeOf_22 : decode cX10_sizeOf 22 = .ok (.iconst 1, 1) := by decide +kernel
theorem dX10_sizeOf_23 : decode cX10_sizeOf 23 = .ok (.goto 4, 3) := by decide +kernel
theorem dX10_sizeOf_26 : decode cX10_sizeOf 26 = .ok (.iconst 0, 1) := by decide +kernel
theorem dX10_sizeOf_27 : decode cX10_sizeOf 27 = .ok (.iadd, 1) := by decide +kernel
theorem dX10_sizeOf_28 : decode cX10_sizeOf 28 = .ok (.istore_n 2, 1) := by decide +kernel
theorem dX10_sizeOf_29 : decode cX10_sizeOf 29 = .ok (.iinc 3 1, 3) := by decide +kernel
theorem dX10_sizeOf_32 : decode cX10_sizeOf 32 = .ok (.goto (-28), 3) := by decide +kernel
theorem dX10_sizeOf_35 : decode cX10_sizeOf 35 = .ok (.iload_n 2, 1) := by decide +kernel
theorem dX10_sizeOf_36 : decode cX10_sizeOf 36 = .ok (.ireturn, 1) := by decide +kernel
theorem dX10_placePoints_0 : decode cX10_placePoints 0 = .ok (.bipush 40, 2) := by decide +kernel
theorem dX10_placePoints_2 : decode cX10_placePoints 2 = .ok (.iload_n 1, 1) := by decide +kernel
theorem dX10_placePoints_3 : decode cX10_placePoints 3 = .ok (.imul, 1) := by decide +kernel
theorem dX10_placePoints_4 : decode cX10_placePoints 4 = .ok (.iload_n 2, 1) := by decide +kernel
theorem dX10_placePoints_5 : decode cX10_placePoints 5 = .ok (.iadd, 1) := by decide +kernel
theorem dX10_placePoints_6 : decode cX10_placePoints 6 = .ok (.istore 4, 2) := by decide +kernel
theorem dX10_placePoints_8 : decode cX10_placePoints 8 = .ok (.iconst 0, 1) := by decide +kernel
theorem dX10_placePoints_9 : decode cX10_placePoints 9 = .ok (.istore 5, 2) := by decide +kernel
theorem dX10_placePoints_11 : decode cX10_placePoints 11 = .ok (.iconst 0, 1) := by decide +kernel
theorem dX10_placePoints_12 : decode cX10_placePoints 12 = .ok (.istore 6, 2) := by decide +kernel
theorem dX10_placePoints_14 : decode cX10_placePoints 14 = .ok (.iconst 0, 1) := by decide +kernel
theorem dX10_placePoints_15 : decode cX10_placePoints 15 = .ok (.istore 7, 2) := by decide +kernel
theorem dX10_placePoints_17 : decode cX10_placePoints 17 = .ok (.iload 7, 2) := by decide +kernel
theorem dX10_placePoints_19 : decode cX10_placePoints 19 = .ok (.aload_n 0, 1) := by decide +kernel
theorem dX10_placePoints_20 : decode cX10_placePoints 20 = .ok (.getfield 102, 3) := by decide +kernel
theorem dX10_placePoints_23 : decode cX10_placePoints 23 = .ok (.if_icmp .ge 111, 3) := by decide +kernel
theorem dX10_placePoints_26 : decode cX10_placePoints 26 = .ok (.bipush 40, 2) := by decide +kernel
theorem dX10_placePoints_28 : decode cX10_placePoints 28 = .ok (.iload_n 1, 1) := by decide +kernel
theorem dX10_placePoints_29 : decode cX10_placePoints 29 = .ok (.imul, 1) := by decide +kernel
theorem dX10_placePoints_30 : decode cX10_placePoints 30 = .ok (.iload 7, 2) := by decide +kernel
theorem dX10_placePoints_32 : decode cX10_placePoints 32 = .ok (.iadd, 1) := by decide +kernel
theorem dX10_placePoints_33 : decode cX10_placePoints 33 = .ok (.istore 8, 2) := by decide +kernel
theorem dX10_placePoints_35 : decode cX10_placePoints 35 = .ok (.aload_n 0, 1) := by decide +kernel
theorem dX10_placePoints_36 : decode cX10_placePoints 36 = .ok (.iload_n 1, 1) := by decide +kernel
theorem dX10_placePoints_37 : decode cX10_placePoints 37 = .ok (.iload 7, 2) := by decide +kernel
theorem dX10_placePoints_39 : decode cX10_placePoints 39 = .ok (.invokevirtual 109, 3) := by decide +kernel
theorem dX10_placePoints_42 : decode cX10_placePoints 42 = .ok (.ifCond .eq 19, 3) := by decide +kernel
theorem dX10_placePoints_45 : decode cX10_placePoints 45 = .ok (.aload_n 0, 1) := by decide +kernel
theorem dX10_placePoints_46 : decode cX10_placePoints 46 = .ok (.getfield 53, 3) := by decide +kernel
theorem dX10_placePoints_49 : decode cX10_placePoints 49 = .ok (.iload 8, 2) := by decide +kernel
theorem dX10_placePoints_51 : decode cX10_placePoints 51 = .ok (.iaload, 1) := by decide +kernel
theorem dX10_placePoints_52 : decode cX10_placePoints 52 = .ok (.bipush 9, 2) := by decide +kernel
theorem dX10_placePoints_54 : decode cX10_placePoints 54 = .ok (.if_icmp .ne 7, 3) := by decide +kernel
theorem dX10_placePoints_57 : decode cX10_placePoints 57 = .ok (.iconst 1, 1) := by decide +kernel
theorem dX10_placePoints_58 : decode cX10_placePoints 58 = .ok (.goto 4, 3) := by decide +kernel
theorem dX10_placePoints_61 : decode cX10_placePoints 61 = .ok (.iconst 0, 1) := by decide +kernel
theorem dX10_placePoints_62 : decode cX10_placePoints 62 = .ok (.istore 9, 2) := by decide +kernel
theorem dX10_placePoints_64 : decode cX10_placePoints 64 = .ok (.iload 5, 2) := by decide +kernel
theorem dX10_placePoints_66 : decode cX10_placePoints 66 = .ok (.iload 9, 2) := by decide +kernel
theorem dX10_placePoints_68 : decode cX10_placePoints 68 = .ok (.ifCond .eq 24, 3) := by decide +kernel
theorem dX10_placePoints_71 : decode cX10_placePoints 71 = .ok (.aload_n 0, 1) := by decide +kernel
theorem dX10_placePoints_72 : decode cX10_placePoints 72 = .ok (.getfield 56, 3) := by decide +kernel
theorem dX10_placePoints_75 : decode cX10_placePoints 75 = .ok (.iload 8, 2) := by decide +kernel
theorem dX10_placePoints_77 : decode cX10_placePoints 77 = .ok (.iaload, 1) := by decide +kernel
theorem dX10_placePoints_78 : decode cX10_placePoints 78 = .ok (.aload_n 0, 1) := by decide +kernel
theorem dX10_placePoints_79 : decode cX10_placePoints 79 = .ok (.getfield 56, 3) := by decide +kernel
theorem dX10_placePoints_82 : decode cX10_placePoints 82 = .ok (.iload 4, 2) := by decide +kernel
theorem dX10_placePoints_84 : decode cX10_placePoints 84 = .ok (.iaload, 1) := by decide +kernel
theorem dX10_placePoints_85 : decode cX10_placePoints 85 = .ok (.if_icmp .ge 7, 3) := by decide +kernel
theorem dX10_placePoints_88 : decode cX10_placePoints 88 = .ok (.iconst 1, 1) := by decide +kernel
theorem dX10_placePoints_89 : decode cX10_placePoints 89 = .ok (.goto 4, 3) := by decide +kernel
theorem dX10_placePoints_92 : decode cX10_placePoints 92 = .ok (.iconst 0, 1) := by decide +kernel
theorem dX10_placePoints_93 : decode cX10_placePoints 93 = .ok (.iadd, 1) := by decide +kernel
theorem dX10_placePoints_94 : decode cX10_placePoints 94 = .ok (.istore 5, 2) := by decide +kernel
theorem dX10_placePoints_96 : decode cX10_placePoints 96 = .ok (.iload 6, 2) := by decide +kernel
theorem dX10_placePoints_98 : decode cX10_placePoints 98 = .ok (.iload 9, 2) := by decide +kernel
theorem dX10_placePoints_100 : decode cX10_placePoints 100 = .ok (.ifCond .eq 24, 3) := by decide +kernel
theorem dX10_placePoints_103 : decode cX10_placePoints 103 = .ok (.aload_n 0, 1) := by decide +kernel
theorem dX10_placePoints_104 : decode cX10_placePoints 104 = .ok (.getfield 56, 3) := by decide +kernel
theorem dX10_placePoints_107 : decode cX10_placePoints 107 = .ok (.iload 8, 2) := by decide +kernel
theorem dX10_placePoints_109 : decode cX10_placePoints 109 = .ok (.iaload, 1) := by decide +kernel
theorem dX10_placePoints_110 : decode cX10_placePoints 110 = .ok (.aload_n 0, 1) := by decide +kernel
theorem dX10_placePoints_111 : decode cX10_placePoints 111 = .ok (.getfield 56, 3) := by decide +kernel
theorem dX10_placePoints_114 : decode cX10_placePoints 114 = .ok (.iload 4, 2) := by decide +kernel
theorem dX10_placePoints_116 : decode cX10_placePoints 116 = .ok (.iaload, 1) := by decide +kernel
theorem dX10_placePoints_117 : decode cX10_placePoints 117 = .ok (.if_icmp .ne 7, 3) := by decide +kernel
theorem dX10_placePoints_120 : decode cX10_placePoints 120 = .ok (.iconst 1, 1) := by decide +kernel
theorem dX10_placePoints_121 : decode cX10_placePoints 121 = .ok (.goto 4, 3) := by decide +kernel
theorem dX10_placePoints_124 : decode cX10_placePoints 124 = .ok (.iconst 0, 1) := by decide +kernel
theorem dX10_placePoints_125 : decode cX10_placePoints 125 = .ok (.iadd, 1) := by decide +kernel
theorem dX10_placePoints_126 : decode cX10_placePoints 126 = .ok (.istore 6, 2) := by decide +kernel
theorem dX10_placePoints_128 : decode cX10_placePoints 128 = .ok (.iinc 7 1, 3) := by decide +kernel
theorem dX10_placePoints_131 : decode cX10_placePoints 131 = .ok (.goto (-114), 3) := by decide +kernel
theorem dX10_placePoints_134 : decode cX10_placePoints 134 = .ok (.bipush 10, 2) := by decide +kernel
theorem dX10_placePoints_136 : decode cX10_placePoints 136 = .ok (.iload 5, 2) := by decide +kernel
theorem dX10_placePoints_138 : decode cX10_placePoints 138 = .ok (.iconst 1, 1) := by decide +kernel
theorem dX10_placePoints_139 : decode cX10_placePoints 139 = .ok (.iadd, 1) := by decide +kernel
theorem dX10_placePoints_140 : decode cX10_placePoints 140 = .ok (.imul, 1) := by decide +kernel
theorem dX10_placePoints_141 : decode cX10_placePoints 141 = .ok (.iconst 5, 1) := by decide +kernel
theorem dX10_placePoints_142 : decode cX10_placePoints 142 = .ok (.iload 6, 2) := by decide +kernel
theorem dX10_placePoints_144 : decode cX10_placePoints 144 = .ok (.iconst 1, 1) := by decide +kernel
theorem dX10_placePoints_145 : decode cX10_placePoints 145 = .ok (.isub, 1) := by decide +kernel
theorem dX10_placePoints_146 : decode cX10_placePoints 146 = .ok (.imul, 1) := by decide +kernel
theorem dX10_placePoints_147 : decode cX10_placePoints 147 = .ok (.iadd, 1) := by decide +kernel
theorem dX10_placePoints_148 : decode cX10_placePoints 148 = .ok (.iload_n 3, 1) := by decide +kernel
theorem dX10_placePoints_149 : decode cX10_placePoints 149 = .ok (.aload_n 0, 1) := by decide +kernel
theorem dX10_placePoints_150 : decode cX10_placePoints 150 = .ok (.getfield 59, 3) := by decide +kernel
theorem dX10_placePoints_153 : decode cX10_placePoints 153 = .ok (.iload 4, 2) := by decide +kernel
theorem dX10_placePoints_155 : decode cX10_placePoints 155 = .ok (.iaload, 1) := by decide +kernel
theorem dX10_placePoints_156 : decode cX10_placePoints 156 = .ok (.imul, 1) := by decide +kernel
theorem dX10_placePoints_157 : decode cX10_placePoints 157 = .ok (.iconst 5, 1) := by decide +kernel
theorem dX10_placePoints_158 : decode cX10_placePoints 158 = .ok (.iadd, 1) := by decide +kernel
theorem dX10_placePoints_159 : decode cX10_placePoints 159 = .ok (.bipush 10, 2) := by decide +kernel
theorem dX10_placePoints_161 : decode cX10_placePoints 161 = .ok (.idiv, 1) := by decide +kernel
theorem dX10_placePoints_162 : decode cX10_placePoints 162 = .ok (.iadd, 1) := by decide +kernel
theorem dX10_placePoints_163 : decode cX10_placePoints 163 = .ok (.istore 7, 2) := by decide +kernel
theorem dX10_placePoints_165 : decode cX10_placePoints 165 = .ok (.iload 7, 2) := by decide +kernel
theorem dX10_placePoints_167 : decode cX10_placePoints 167 = .ok (.bipush 10, 2) := by decide +kernel
theorem dX10_placePoints_169 : decode cX10_placePoints 169 = .ok (.iload_n 3, 1) := by decide +kernel
theorem dX10_placePoints_170 : decode cX10_placePoints 170 = .ok (.imul, 1) := by decide +kernel
theorem dX10_placePoints_171 : decode cX10_placePoints 171 = .ok (.bipush 10, 2) := by decide +kernel
theorem dX10_placePoints_173 : decode cX10_placePoints 173 = .ok (.iadd, 1) := by decide +kernel
theorem dX10_placePoints_174 : decode cX10_placePoints 174 = .ok (.if_icmp .le 13, 3) := by decide +kernel
theorem dX10_placePoints_177 : decode cX10_placePoints 177 = .ok (.bipush 10, 2) := by decide +kernel
theorem dX10_placePoints_179 : decode cX10_placePoints 179 = .ok (.iload_n 3, 1) := by decide +kernel
theorem dX10_placePoints_180 : decode cX10_placePoints 180 = .ok (.imul, 1) := by decide +kernel
theorem dX10_placePoints_181 : decode cX10_placePoints 181 = .ok (.bipush 10, 2) := by decide +kernel
theorem dX10_placePoints_183 : decode cX10_placePoints 183 = .ok (.iadd, 1) := by decide +kernel
theorem dX10_placePoints_184 : decode cX10_placePoints 184 = .ok (.goto 5, 3) := by decide +kernel
theorem dX10_placePoints_187 : decode cX10_placePoints 187 = .ok (.iload 7, 2) := by decide +kernel
theorem dX10_placePoints_189 : decode cX10_placePoints 189 = .ok (.ireturn, 1) := by decide +kernel
theorem dX10_firstPoints_0 : decode cX10_firstPoints 0 = .ok (.iconst 0, 1) := by decide +kernel
theorem dX10_firstPoints_1 : decode cX10_firstPoints 1 = .ok (.istore_n 1, 1) := by decide +kernel
theorem dX10_firstPoints_2 : decode cX10_firstPoints 2 = .ok (.iload_n 1, 1) := by decide +kernel
theorem dX10_firstPoints_3 : decode cX10_firstPoints 3 = .ok (.aload_n 0, 1) := by decide +kernel
theorem dX10_firstPoints_4 : decode cX10_firstPoints 4 = .ok (.getfield 99, 3) := by decide +kernel
theorem dX10_firstPoints_7 : decode cX10_firstPoints 7 = .ok (.if_icmp .ge 97, 3) := by decide +kernel
theorem dX10_firstPoints_10 : decode cX10_firstPoints 10 = .ok (.aload_n 0, 1) := by decide +kernel
theorem dX10_firstPoints_11 : decode cX10_firstPoints 11 = .ok (.iload_n 1, 1) := by decide +kernel
theorem dX10_firstPoints_12 : decode cX10_firstPoints 12 = .ok (.invokevirtual 113, 3) := by decide +kernel
theorem dX10_firstPoints_15 : decode cX10_firstPoints 15 = .ok (.istore_n 2, 1) := by decide +kernel
theorem dX10_firstPoints_16 : decode cX10_firstPoints 16 = .ok (.iconst 0, 1) := by decide +kernel
theorem dX10_firstPoints_17 : decode cX10_firstPoints 17 = .ok (.istore_n 3, 1) := by decide +kernel
theorem dX10_firstPoints_18 : decode cX10_firstPoints 18 = .ok (.iload_n 3, 1) := by decide +kernel
theorem dX10_firstPoints_19 : decode cX10_firstPoints 19 = .ok (.aload_n 0, 1) := by decide +kernel
theorem dX10_firstPoints_20 : decode cX10_firstPoints 20 = .ok (.getfield 102, 3) := by decide +kernel
theorem dX10_firstPoints_23 : decode cX10_firstPoints 23 = .ok (.if_icmp .ge 75, 3) := by decide +kernel
theorem dX10_firstPoints_26 : decode cX10_firstPoints 26 = .ok (.bipush 40, 2) := by decide +kernel
theorem dX10_firstPoints_28 : decode cX10_firstPoints 28 = .ok (.iload_n 1, 1) := by decide +kernel
theorem dX10_firstPoints_29 : decode cX10_firstPoints 29 = .ok (.imul, 1) := by decide +kernel
theorem dX10_firstPoints_30 : decode cX10_firstPoints 30 = .ok (.iload_n 3, 1) := by decide +kernel
theorem dX10_firstPoints_31 : decode cX10_firstPoints 31 = .ok (.iadd, 1) := by decide +kernel
theorem dX10_firstPoints_32 : decode cX10_firstPoints 32 = .ok (.istore 4, 2) := by decide +kernel
theorem dX10_firstPoints_34 : decode cX10_firstPoints 34 = .ok (.aload_n 0, 1) := by decide +kernel
theorem dX10_firstPoints_35 : decode cX10_firstPoints 35 = .ok (.getfield 65, 3) := by decide +kernel
theorem dX10_firstPoints_38 : decode cX10_firstPoints 38 = .ok (.iload 4, 2) := by decide +kernel
theorem dX10_firstPoints_40 : decode cX10_firstPoints 40 = .ok (.aload_n 0, 1) := by decide +kernel
theorem dX10_firstPoints_41 : decode cX10_firstPoints 41 = .ok (.getfield 53, 3) := by decide +kernel
theorem dX10_firstPoints_44 : decode cX10_firstPoints 44 = .ok (.iload 4, 2) := by decide +kernel
theorem dX10_firstPoints_46 : decode cX10_firstPoints 46 = .ok (.iaload, 1) := by decide +kernel
theorem dX10_firstPoints_47 : decode cX10_firstPoints 47 = .ok (.bipush 9, 2) := by decide +kernel
theorem dX10_firstPoints_49 : decode cX10_firstPoints 49 = .ok (.if_icmp .ne 13, 3) := by decide +kernel
theorem dX10_firstPoints_52 : decode cX10_firstPoints 52 = .ok (.aload_n 0, 1) := by decide +kernel
theorem dX10_firstPoints_53 : decode cX10_firstPoints 53 = .ok (.iload_n 1, 1) := by decide +kernel
theorem dX10_firstPoints_54 : decode cX10_firstPoints 54 = .ok (.iload_n 3, 1) := by decide +kernel
theorem dX10_firstPoints_55 : decode cX10_firstPoints 55 = .ok (.iload_n 2, 1) := by decide +kernel
theorem dX10_firstPoints_56 : decode cX10_firstPoints 56 = .ok (.invokevirtual 116, 3) := by decide +kernel
theorem dX10_firstPoints_59 : decode cX10_firstPoints 59 = .ok (.goto 32, 3) := by decide +kernel
theorem dX10_firstPoints_62 : decode cX10_firstPoints 62 = .ok (.aload_n 0, 1) := by decide +kernel
theorem dX10_firstPoints_63 : decode cX10_firstPoints 63 = .ok (.getfield 53, 3) := by decide +kernel
theorem dX10_firstPoints_66 : decode cX10_firstPoints 66 = .ok (.iload 4, 2) := by decide +kernel
theorem dX10_firstPoints_68 : decode cX10_firstPoints 68 = .ok (.iaload, 1) := by decide +kernel
theorem dX10_firstPoints_69 : decode cX10_firstPoints 69 = .ok (.bipush 8, 2) := by decide +kernel
theorem dX10_firstPoints_71 : decode cX10_firstPoints 71 = .ok (.if_icmp .ne 13, 3) := by decide +kernel
theorem dX10_firstPoints_74 : decode cX10_firstPoints 74 = .ok (.aload_n 0, 1) := by decide +kernel
theorem dX10_firstPoints_75 : decode cX10_firstPoints 75 = .ok (.getfield 56, 3) := by decide +kernel
theorem dX10_firstPoints_78 : decode cX10_firstPoints 78 = .ok (.iload 4, 2) := by decide +kernel
theorem dX10_firstPoints_80 : decode cX10_firstPoints 80 = .ok (.iaload, 1) := by decide +kernel
theorem dX10_firstPoints_81 : decode cX10_firstPoints 81 = .ok (.goto 10, 3) := by decide +kernel
theorem dX10_firstPoints_84 : decode cX10_firstPoints 84 = .ok (.bipush 10, 2) := by decide +kernel
theorem dX10_firstPoints_86 : decode cX10_firstPoints 86 = .ok (.iload_n 2, 1) := by decide +kernel
theorem dX10_firstPoints_87 : decode cX10_firstPoints 87 = .ok (.imul, 1) := by decide +kernel
theorem dX10_firstPoints_88 : decode cX10_firstPoints 88 = .ok (.bipush 10, 2) := by decide +kernel
theorem dX10_firstPoints_90 : decode cX10_firstPoints 90 = .ok (.iadd, 1) := by decide +kernel
theorem dX10_firstPoints_91 : decode cX10_firstPoints 91 = .ok (.iastore, 1) := by decide +kernel
theorem dX10_firstPoints_92 : decode cX10_firstPoints 92 = .ok (.iinc 3 1, 3) := by decide +kernel
theorem dX10_firstPoints_95 : decode cX10_firstPoints 95 = .ok (.goto (-77), 3) := by decide +kernel
theorem dX10_firstPoints_98 : decode cX10_firstPoints 98 = .ok (.iinc 1 1, 3) := by decide +kernel
theorem dX10_firstPoints_101 : decode cX10_firstPoints 101 = .ok (.goto (-99), 3) := by decide +kernel
theorem dX10_firstPoints_104 : decode cX10_firstPoints 104 = .ok (.return_, 1) := by decide +kernel
theorem dX10_isRedress_0 : decode cX10_isRedress 0 = .ok (.iload_n 0, 1) := by decide +kernel
theorem dX10_isRedress_1 : decode cX10_isRedress 1 = .ok (.bipush 6, 2) := by decide +kernel
theorem dX10_isRedress_3 : decode cX10_isRedress 3 = .ok (.if_icmp .eq 15, 3) := by decide +kernel
theorem dX10_isRedress_6 : decode cX10_isRedress 6 = .ok (.iload_n 0, 1) := by decide +kernel
theorem dX10_isRedress_7 : decode cX10_isRedress 7 = .ok (.bipush 7, 2) := by decide +kernel
theorem dX10_isRedress_9 : decode cX10_isRedress 9 = .ok (.if_icmp .eq 9, 3) := by decide +kernel
theorem dX10_isRedress_12 : decode cX10_isRedress 12 = .ok (.iload_n 0, 1) := by decide +kernel
theorem dX10_isRedress_13 : decode cX10_isRedress 13 = .ok (.bipush 8, 2) := by decide +kernel
theorem dX10_isRedress_15 : decode cX10_isRedress 15 = .ok (.if_icmp .ne 7, 3) := by decide +kernel
theorem dX10_isRedress_18 : decode cX10_isRedress 18 = .ok (.iconst 1, 1) := by decide +kernel
theorem dX10_isRedress_19 : decode cX10_isRedress 19 = .ok (.goto 4, 3) := by decide +kernel
theorem dX10_isRedress_22 : decode cX10_isRedress 22 = .ok (.iconst 0, 1) := by decide +kernel
theorem dX10_isRedress_23 : decode cX10_isRedress 23 = .ok (.ireturn, 1) := by decide +kernel
theorem dX10_average_0 : decode cX10_average 0 = .ok (.iconst 0, 1) := by decide +kernel
theorem dX10_average_1 : decode cX10_average 1 = .ok (.istore 4, 2) := by decide +kernel
theorem dX10_average_3 : decode cX10_average 3 = .ok (.iconst 0, 1) := by decide +kernel
theorem dX10_average_4 : decode cX10_average 4 = .ok (.istore 5, 2) := by decide +kernel
theorem dX10_average_6 : decode cX10_average 6 = .ok (.iconst 0, 1) := by decide +kernel
theorem dX10_average_7 : decode cX10_average 7 = .ok (.istore 6, 2) := by decide +kernel
theorem dX10_average_9 : decode cX10_average 9 = .ok (.iload 6, 2) := by decide +kernel
theorem dX10_average_11 : decode cX10_average 11 = .ok (.iload_n 3, 1) := by decide +kernel
theorem dX10_average_12 : decode cX10_average 12 = .ok (.if_icmp .ge 91, 3) := by decide +kernel
theorem dX10_average_15 : decode cX10_average 15 = .ok (.iload 6, 2) := by decide +kernel
theorem dX10_average_17 : decode cX10_average 17 = .ok (.iload_n 1, 1) := by decide +kernel
theorem dX10_average_18 : decode cX10_average 18 = .ok (.if_icmp .eq 35, 3) := by decide +kernel
theorem dX10_average_21 : decode cX10_average 21 = .ok (.aload_n 0, 1) := by decide +kernel
theorem dX10_average_22 : decode cX10_average 22 = .ok (.iload 6, 2) := by decide +kernel
theorem dX10_average_24 : decode cX10_average 24 = .ok (.iload_n 2, 1) := by decide +kernel
theorem dX10_average_25 : decode cX10_average 25 = .ok (.invokevirtual 120, 3) := by decide +kernel
theorem dX10_average_28 : decode cX10_average 28 = .ok (.ifCond .eq 25, 3) := by decide +kernel
theorem dX10_average_31 : decode cX10_average 31 = .ok (.aload_n 0, 1) := by decide +kernel
theorem dX10_average_32 : decode cX10_average 32 = .ok (.getfield 53, 3) := by decide +kernel
theorem dX10_average_35 : decode cX10_average 35 = .ok (.bipush 40, 2) := by decide +kernel
theorem dX10_average_37 : decode cX10_average 37 = .ok (.iload 6, 2) := by decide +kernel
theorem dX10_average_39 : decode cX10_average 39 = .ok (.imul, 1) := by decide +kernel
theorem dX10_average_40 : decode cX10_average 40 = .ok (.iload_n 2, 1) := by decide +kernel
theorem dX10_average_41 : decode cX10_average 41 = .ok (.iadd, 1) := by decide +kernel
theorem dX10_average_42 : decode cX10_average 42 = .ok (.iaload, 1) := by decide +kernel
theorem dX10_average_43 : decode cX10_average 43 = .ok (.invokestatic 123, 3) := by decide +kernel
theorem dX10_average_46 : decode cX10_average 46 = .ok (.ifCond .ne 7, 3) := by decide +kernel
theorem dX10_average_49 : decode cX10_average 49 = .ok (.iconst 1, 1) := by decide +kernel
theorem dX10_average_50 : decode cX10_average 50 = .ok (.goto 4, 3) := by decide +kernel
theorem dX10_average_53 : decode cX10_average 53 = .ok (.iconst 0, 1) := by decide +kernel
theorem dX10_average_54 : decode cX10_average 54 = .ok (.istore 7, 2) := by decide +kernel
theorem dX10_average_56 : decode cX10_average 56 = .ok (.iload 4, 2) := by decide +kernel
theorem dX10_average_58 : decode cX10_average 58 = .ok (.iload 7, 2) := by decide +kernel
theorem dX10_average_60 : decode cX10_average 60 = .ok (.ifCond .eq 18, 3) := by decide +kernel
theorem dX10_average_63 : decode cX10_average 63 = .ok (.aload_n 0, 1) := by decide +kernel
theorem dX10_average_64 : decode cX10_average 64 = .ok (.getfield 65, 3) := by decide +kernel
theorem dX10_average_67 : decode cX10_average 67 = .ok (.bipush 40, 2) := by decide +kernel
theorem dX10_average_69 : decode cX10_average 69 = .ok (.iload 6, 2) := by decide +kernel
theorem dX10_average_71 : decode cX10_average 71 = .ok (.imul, 1) := by decide +kernel
theorem dX10_average_72 : decode cX10_average 72 = .ok (.iload_n 2, 1) := by decide +kernel
theorem dX10_average_73 : decode cX10_average 73 = .ok (.iadd, 1) := by decide +kernel
theorem dX10_average_74 : decode cX10_average 74 = .ok (.iaload, 1) := by decide +kernel
theorem dX10_average_75 : decode cX10_average 75 = .ok (.goto 4, 3) := by decide +kernel
theorem dX10_average_78 : decode cX10_average 78 = .ok (.iconst 0, 1) := by decide +kernel
theorem dX10_average_79 : decode cX10_average 79 = .ok (.iadd, 1) := by decide +kernel
theorem dX10_average_80 : decode cX10_average 80 = .ok (.istore 4, 2) := by decide +kernel
theorem dX10_average_82 : decode cX10_average 82 = .ok (.iload 5, 2) := by decide +kernel
theorem dX10_average_84 : decode cX10_average 84 = .ok (.iload 7, 2) := by decide +kernel
theorem dX10_average_86 : decode cX10_average 86 = .ok (.ifCond .eq 7, 3) := by decide +kernel
theorem dX10_average_89 : decode cX10_average 89 = .ok (.iconst 1, 1) := by decide +kernel
theorem dX10_average_90 : decode cX10_average 90 = .ok (.goto 4, 3) := by decide +kernel
theorem dX10_average_93 : decode cX10_average 93 = .ok (.iconst 0, 1) := by decide +kernel
theorem dX10_average_94 : decode cX10_average 94 = .ok (.iadd, 1) := by decide +kernel
theorem dX10_average_95 : decode cX10_average 95 = .ok (.istore 5, 2) := by decide +kernel
theorem dX10_average_97 : decode cX10_average 97 = .ok (.iinc 6 1, 3) := by decide +kernel
theorem dX10_average_100 : decode cX10_average 100 = .ok (.goto (-91), 3) := by decide +kernel
theorem dX10_average_103 : decode cX10_average 103 = .ok (.iload 5, 2) := by decide +kernel
theorem dX10_average_105 : decode cX10_average 105 = .ok (.ifCond .ne 13, 3) := by decide +kernel
theorem dX10_average_108 : decode cX10_average 108 = .ok (.iconst 5, 1) := by decide +kernel
theorem dX10_average_109 : decode cX10_average 109 = .ok (.aload_n 0, 1) := by decide +kernel
theorem dX10_average_110 : decode cX10_average 110 = .ok (.iload_n 1, 1) := by decide +kernel
theorem dX10_average_111 : decode cX10_average 111 = .ok (.invokevirtual 113, 3) := by decide +kernel
theorem dX10_average_114 : decode cX10_average 114 = .ok (.imul, 1) := by decide +kernel
theorem dX10_average_115 : decode cX10_average 115 = .ok (.goto 15, 3) := by decide +kernel
theorem dX10_average_118 : decode cX10_average 118 = .ok (.iconst 2, 1) := by decide +kernel
theorem dX10_average_119 : decode cX10_average 119 = .ok (.iload 4, 2) := by decide +kernel
theorem dX10_average_121 : decode cX10_average 121 = .ok (.imul, 1) := by decide +kernel
theorem dX10_average_122 : decode cX10_average 122 = .ok (.iload 5, 2) := by decide +kernel
theorem dX10_average_124 : decode cX10_average 124 = .ok (.iadd, 1) := by decide +kernel
theorem dX10_average_125 : decode cX10_average 125 = .ok (.iconst 2, 1) := by decide +kernel
theorem dX10_average_126 : decode cX10_average 126 = .ok (.iload 5, 2) := by decide +kernel
theorem dX10_average_128 : decode cX10_average 128 = .ok (.imul, 1) := by decide +kernel
theorem dX10_average_129 : decode cX10_average 129 = .ok (.idiv, 1) := by decide +kernel
theorem dX10_average_130 : decode cX10_average 130 = .ok (.ireturn, 1) := by decide +kernel
theorem dX10_scoreOf_0 : decode cX10_scoreOf 0 = .ok (.aload_n 0, 1) := by decide +kernel
theorem dX10_scoreOf_1 : decode cX10_scoreOf 1 = .ok (.getfield 16, 3) := by decide +kernel
theorem dX10_scoreOf_4 : decode cX10_scoreOf 4 = .ok (.iload_n 1, 1) := by decide +kernel
theorem dX10_scoreOf_5 : decode cX10_scoreOf 5 = .ok (.iaload, 1) := by decide +kernel
theorem dX10_scoreOf_6 : decode cX10_scoreOf 6 = .ok (.iconst 2, 1) := by decide +kernel
theorem dX10_scoreOf_7 : decode cX10_scoreOf 7 = .ok (.if_icmp .ne 19, 3) := by decide +kernel
theorem dX10_scoreOf_10 : decode cX10_scoreOf 10 = .ok (.iconst 2, 1) := by decide +kernel
theorem dX10_scoreOf_11 : decode cX10_scoreOf 11 = .ok (.aload_n 0, 1) := by decide +kernel
theorem dX10_scoreOf_12 : decode cX10_scoreOf 12 = .ok (.getfield 65, 3) := by decide +kernel
theorem dX10_scoreOf_15 : decode cX10_scoreOf 15 = .ok (.bipush 40, 2) := by decide +kernel
theorem dX10_scoreOf_17 : decode cX10_scoreOf 17 = .ok (.iload_n 1, 1) := by decide +kernel
theorem dX10_scoreOf_18 : decode cX10_scoreOf 18 = .ok (.imul, 1) := by decide +kernel
theorem dX10_scoreOf_19 : decode cX10_scoreOf 19 = .ok (.iload_n 2, 1) := by decide +kernel
theorem dX10_scoreOf_20 : decode cX10_scoreOf 20 = .ok (.iadd, 1) := by decide +kernel
theorem dX10_scoreOf_21 : decode cX10_scoreOf 21 = .ok (.iaload, 1) := by decide +kernel
theorem dX10_scoreOf_22 : decode cX10_scoreOf 22 = .ok (.imul, 1) := by decide +kernel
theorem dX10_scoreOf_23 : decode cX10_scoreOf 23 = .ok (.goto 14, 3) := by decide +kernel
theorem dX10_scoreOf_26 : decode cX10_scoreOf 26 = .ok (.aload_n 0, 1) := by decide +kernel
theorem dX10_scoreOf_27 : decode cX10_scoreOf 27 = .ok (.getfield 65, 3) := by decide +kernel
theorem dX10_scoreOf_30 : decode cX10_scoreOf 30 = .ok (.bipush 40, 2) := by decide +kernel
theorem dX10_scoreOf_32 : decode cX10_scoreOf 32 = .ok (.iload_n 1, 1) := by decide +kernel
theorem dX10_scoreOf_33 : decode cX10_scoreOf 33 = .ok (.imul, 1) := by decide +kernel
theorem dX10_scoreOf_34 : decode cX10_scoreOf 34 = .ok (.iload_n 2, 1) := by decide +kernel
theorem dX10_scoreOf_35 : decode cX10_scoreOf 35 = .ok (.iadd, 1) := by decide +kernel
theorem dX10_scoreOf_36 : decode cX10_scoreOf 36 = .ok (.iaload, 1) := by decide +kernel
theorem dX10_scoreOf_37 : decode cX10_scoreOf 37 = .ok (.ireturn, 1) := by decide +kernel
theorem dX10_reckon_0 : decode cX10_reckon 0 = .ok (.aload_n 0, 1) := by decide +kernel
theorem dX10_reckon_1 : decode cX10_reckon 1 = .ok (.invokevirtual 127, 3) := by decide +kernel
theorem dX10_reckon_4 : decode cX10_reckon 4 = .ok (.aload_n 0, 1) := by decide +kernel
theorem dX10_reckon_5 : decode cX10_reckon 5 = .ok (.invokevirtual 130, 3) := by decide +kernel
theorem dX10_reckon_8 : decode cX10_reckon 8 = .ok (.iconst 0, 1) := by decide +kernel
theorem dX10_reckon_9 : decode cX10_reckon 9 = .ok (.istore_n 1, 1) := by decide +kernel
theorem dX10_reckon_10 : decode cX10_reckon 10 = .ok (.iload_n 1, 1) := by decide +kernel
theorem dX10_reckon_11 : decode cX10_reckon 11 = .ok (.aload_n 0, 1) := by decide +kernel
theorem dX10_reckon_12 : decode cX10_reckon 12 = .ok (.getfield 99, 3) := by decide +kernel
theorem dX10_reckon_15 : decode cX10_reckon 15 = .ok (.if_icmp .ge 80, 3) := by decide +kernel
theorem dX10_reckon_18 : decode cX10_reckon 18 = .ok (.iconst 0, 1) := by decide +kernel
theorem dX10_reckon_19 : decode cX10_reckon 19 = .ok (.istore_n 2, 1) := by decide +kernel
theorem dX10_reckon_20 : decode cX10_reckon 20 = .ok (.iload_n 2, 1) := by decide +kernel
theorem dX10_reckon_21 : decode cX10_reckon 21 = .ok (.aload_n 0, 1) := by decide +kernel
theorem dX10_reckon_22 : decode cX10_reckon 22 = .ok (.getfield 102, 3) := by decide +kernel
theorem dX10_reckon_25 : decode cX10_reckon 25 = .ok (.if_icmp .ge 64, 3) := by decide +kernel
theorem dX10_reckon_28 : decode cX10_reckon 28 = .ok (.aload_n 0, 1) := by decide +kernel
theorem dX10_reckon_29 : decode cX10_reckon 29 = .ok (.getfield 53, 3) := by decide +kernel
theorem dX10_reckon_32 : decode cX10_reckon 32 = .ok (.bipush 40, 2) := by decide +kernel
theorem dX10_reckon_34 : decode cX10_reckon 34 = .ok (.iload_n 1, 1) := by decide +kernel
theorem dX10_reckon_35 : decode cX10_reckon 35 = .ok (.imul, 1) := by decide +kernel
theorem dX10_reckon_36 : decode cX10_reckon 36 = .ok (.iload_n 2, 1) := by decide +kernel
theorem dX10_reckon_37 : decode cX10_reckon 37 = .ok (.iadd, 1) := by decide +kernel
theorem dX10_reckon_38 : decode cX10_reckon 38 = .ok (.iaload, 1) := by decide +kernel
theorem dX10_reckon_39 : decode cX10_reckon 39 = .ok (.istore_n 3, 1) := by decide +kernel
theorem dX10_reckon_40 : decode cX10_reckon 40 = .ok (.iload_n 3, 1) := by decide +kernel
theorem dX10_reckon_41 : decode cX10_reckon 41 = .ok (.bipush 6, 2) := by decide +kernel
theorem dX10_reckon_43 : decode cX10_reckon 43 = .ok (.if_icmp .eq 9, 3) := by decide +kernel
theorem dX10_reckon_46 : decode cX10_reckon 46 = .ok (.iload_n 3, 1) := by decide +kernel
theorem dX10_reckon_47 : decode cX10_reckon 47 = .ok (.bipush 7, 2) := by decide +kernel
theorem dX10_reckon_49 : decode cX10_reckon 49 = .ok (.if_icmp .ne 34, 3) := by decide +kernel
theorem dX10_reckon_52 : decode cX10_reckon 52 = .ok (.aload_n 0, 1) := by decide +kernel
theorem dX10_reckon_53 : decode cX10_reckon 53 = .ok (.getfield 65, 3) := by decide +kernel
theorem dX10_reckon_56 : decode cX10_reckon 56 = .ok (.bipush 40, 2) := by decide +kernel
theorem dX10_reckon_58 : decode cX10_reckon 58 = .ok (.iload_n 1, 1) := by decide +kernel
theorem dX10_reckon_59 : decode cX10_reckon 59 = .ok (.imul, 1) := by decide +kernel
theorem dX10_reckon_60 : decode cX10_reckon 60 = .ok (.iload_n 2, 1) := by decide +kernel
theorem dX10_reckon_61 : decode cX10_reckon 61 = .ok (.iadd, 1) := by decide +kernel
theorem dX10_reckon_62 : decode cX10_reckon 62 = .ok (.aload_n 0, 1) := by decide +kernel
theorem dX10_reckon_63 : decode cX10_reckon 63 = .ok (.iload_n 1, 1) := by decide +kernel
theorem dX10_reckon_64 : decode cX10_reckon 64 = .ok (.iload_n 2, 1) := by decide +kernel
theorem dX10_reckon_65 : decode cX10_reckon 65 = .ok (.iload_n 3, 1) := by decide +kernel
theorem dX10_reckon_66 : decode cX10_reckon 66 = .ok (.bipush 6, 2) := by decide +kernel
theorem dX10_reckon_68 : decode cX10_reckon 68 = .ok (.if_icmp .ne 10, 3) := by decide +kernel
theorem dX10_reckon_71 : decode cX10_reckon 71 = .ok (.aload_n 0, 1) := by decide +kernel
theorem dX10_reckon_72 : decode cX10_reckon 72 = .ok (.getfield 99, 3) := by decide +kernel
theorem dX10_reckon_75 : decode cX10_reckon 75 = .ok (.goto 4, 3) := by decide +kernel
theorem dX10_reckon_78 : decode cX10_reckon 78 = .ok (.iload_n 1, 1) := by decide +kernel
theorem dX10_reckon_79 : decode cX10_reckon 79 = .ok (.invokevirtual 133, 3) := by decide +kernel
theorem dX10_reckon_82 : decode cX10_reckon 82 = .ok (.iastore, 1) := by decide +kernel
theorem dX10_reckon_83 : decode cX10_reckon 83 = .ok (.iinc 2 1, 3) := by decide +kernel
theorem dX10_reckon_86 : decode cX10_reckon 86 = .ok (.goto (-66), 3) := by decide +kernel
theorem dX10_reckon_89 : decode cX10_reckon 89 = .ok (.iinc 1 1, 3) := by decide +kernel
theorem dX10_reckon_92 : decode cX10_reckon 92 = .ok (.goto (-82), 3) := by decide +kernel
theorem dX10_reckon_95 : decode cX10_reckon 95 = .ok (.iconst 0, 1) := by decide +kernel
theorem dX10_reckon_96 : decode cX10_reckon 96 = .ok (.istore_n 1, 1) := by decide +kernel
theorem dX10_reckon_97 : decode cX10_reckon 97 = .ok (.iload_n 1, 1) := by decide +kernel
theorem dX10_reckon_98 : decode cX10_reckon 98 = .ok (.aload_n 0, 1) := by decide +kernel
theorem dX10_reckon_99 : decode cX10_reckon 99 = .ok (.getfield 102, 3) := by decide +kernel
theorem dX10_reckon_102 : decode cX10_reckon 102 = .ok (.if_icmp .ge 14, 3) := by decide +kernel
theorem dX10_reckon_105 : decode cX10_reckon 105 = .ok (.aload_n 0, 1) := by decide +kernel
theorem dX10_reckon_106 : decode cX10_reckon 106 = .ok (.iload_n 1, 1) := by decide +kernel
theorem dX10_reckon_107 : decode cX10_reckon 107 = .ok (.invokevirtual 136, 3) := by decide +kernel
theorem dX10_reckon_110 : decode cX10_reckon 110 = .ok (.iinc 1 1, 3) := by decide +kernel
theorem dX10_reckon_113 : decode cX10_reckon 113 = .ok (.goto (-16), 3) := by decide +kernel
theorem dX10_reckon_116 : decode cX10_reckon 116 = .ok (.return_, 1) := by decide +kernel
theorem dX10_allowed_0 : decode cX10_allowed 0 = .ok (.iconst 0, 1) := by decide +kernel
theorem dX10_allowed_1 : decode cX10_allowed 1 = .ok (.istore_n 2, 1) := by decide +kernel
theorem dX10_allowed_2 : decode cX10_allowed 2 = .ok (.iconst 0, 1) := by decide +kernel
theorem dX10_allowed_3 : decode cX10_allowed 3 = .ok (.istore_n 3, 1) := by decide +kernel
theorem dX10_allowed_4 : decode cX10_allowed 4 = .ok (.iload_n 3, 1) := by decide +kernel
theorem dX10_allowed_5 : decode cX10_allowed 5 = .ok (.aload_n 0, 1) := by decide +kernel
theorem dX10_allowed_6 : decode cX10_allowed 6 = .ok (.getfield 140, 3) := by decide +kernel
theorem dX10_allowed_9 : decode cX10_allowed 9 = .ok (.if_icmp .ge 30, 3) := by decide +kernel
theorem dX10_allowed_12 : decode cX10_allowed 12 = .ok (.aload_n 0, 1) := by decide +kernel
theorem dX10_allowed_13 : decode cX10_allowed 13 = .ok (.getfield 47, 3) := by decide +kernel
theorem dX10_allowed_16 : decode cX10_allowed 16 = .ok (.iload_n 3, 1) := by decide +kernel
theorem dX10_allowed_17 : decode cX10_allowed 17 = .ok (.iaload, 1) := by decide +kernel
theorem dX10_allowed_18 : decode cX10_allowed 18 = .ok (.iload_n 1, 1) := by decide +kernel
theorem dX10_allowed_19 : decode cX10_allowed 19 = .ok (.if_icmp .gt 12, 3) := by decide +kernel
theorem dX10_allowed_22 : decode cX10_allowed 22 = .ok (.aload_n 0, 1) := by decide +kernel
theorem dX10_allowed_23 : decode cX10_allowed 23 = .ok (.getfield 50, 3) := by decide +kernel
theorem dX10_allowed_26 : decode cX10_allowed 26 = .ok (.iload_n 3, 1) := by decide +kernel
theorem dX10_allowed_27 : decode cX10_allowed 27 = .ok (.iaload, 1) := by decide +kernel
theorem dX10_allowed_28 : decode cX10_allowed 28 = .ok (.goto 4, 3) := by decide +kernel
theorem dX10_allowed_31 : decode cX10_allowed 31 = .ok (.iload_n 2, 1) := by decide +kernel
theorem dX10_allowed_32 : decode cX10_allowed 32 = .ok (.istore_n 2, 1) := by decide +kernel
theorem dX10_allowed_33 : decode cX10_allowed 33 = .ok (.iinc 3 1, 3) := by decide +kernel
theorem dX10_allowed_36 : decode cX10_allowed 36 = .ok (.goto (-32), 3) := by decide +kernel
theorem dX10_allowed_39 : decode cX10_allowed 39 = .ok (.iload_n 2, 1) := by decide +kernel
theorem dX10_allowed_40 : decode cX10_allowed 40 = .ok (.ireturn, 1) := by decide +kernel
theorem dX10_mayGo_0 : decode cX10_mayGo 0 = .ok (.aload_n 0, 1) := by decide +kernel
theorem dX10_mayGo_1 : decode cX10_mayGo 1 = .ok (.iload_n 1, 1) := by decide +kernel
theorem dX10_mayGo_2 : decode cX10_mayGo 2 = .ok (.iload_n 2, 1) := by decide +kernel
theorem dX10_mayGo_3 : decode cX10_mayGo 3 = .ok (.invokevirtual 120, 3) := by decide +kernel
theorem dX10_mayGo_6 : decode cX10_mayGo 6 = .ok (.ifCond .eq 32, 3) := by decide +kernel
theorem dX10_mayGo_9 : decode cX10_mayGo 9 = .ok (.aload_n 0, 1) := by decide +kernel
theorem dX10_mayGo_10 : decode cX10_mayGo 10 = .ok (.getfield 16, 3) := by decide +kernel
theorem dX10_mayGo_13 : decode cX10_mayGo 13 = .ok (.iload_n 1, 1) := by decide +kernel
theorem dX10_mayGo_14 : decode cX10_mayGo 14 = .ok (.iaload, 1) := by decide +kernel
theorem dX10_mayGo_15 : decode cX10_mayGo 15 = .ok (.iconst 2, 1) := by decide +kernel
theorem dX10_mayGo_16 : decode cX10_mayGo 16 = .ok (.if_icmp .eq 22, 3) := by decide +kernel
theorem dX10_mayGo_19 : decode cX10_mayGo 19 = .ok (.aload_n 0, 1) := by decide +kernel
theorem dX10_mayGo_20 : decode cX10_mayGo 20 = .ok (.getfield 53, 3) := by decide +kernel
theorem dX10_mayGo_23 : decode cX10_mayGo 23 = .ok (.bipush 40, 2) := by decide +kernel
theorem dX10_mayGo_25 : decode cX10_mayGo 25 = .ok (.iload_n 1, 1) := by decide +kernel
theorem dX10_mayGo_26 : decode cX10_mayGo 26 = .ok (.imul, 1) := by decide +kernel
theorem dX10_mayGo_27 : decode cX10_mayGo 27 = .ok (.iload_n 2, 1) := by decide +kernel
theorem dX10_mayGo_28 : decode cX10_mayGo 28 = .ok (.iadd, 1) := by decide +kernel
theorem dX10_mayGo_29 : decode cX10_mayGo 29 = .ok (.iaload, 1) := by decide +kernel
theorem dX10_mayGo_30 : decode cX10_mayGo 30 = .ok (.iconst 5, 1) := by decide +kernel
theorem dX10_mayGo_31 : decode cX10_mayGo 31 = .ok (.if_icmp .eq 7, 3) := by decide +kernel
theorem dX10_mayGo_34 : decode cX10_mayGo 34 = .ok (.iconst 1, 1) := by decide +kernel
theorem dX10_mayGo_35 : decode cX10_mayGo 35 = .ok (.goto 4, 3) := by decide +kernel
theorem dX10_mayGo_38 : decode cX10_mayGo 38 = .ok (.iconst 0, 1) := by decide +kernel
theorem dX10_mayGo_39 : decode cX10_mayGo 39 = .ok (.ireturn, 1) := by decide +kernel
theorem dX10_sum_0 : decode cX10_sum 0 = .ok (.iconst 0, 1) := by decide +kernel
theorem dX10_sum_1 : decode cX10_sum 1 = .ok (.istore_n 2, 1) := by decide +kernel
theorem dX10_sum_2 : decode cX10_sum 2 = .ok (.iconst 0, 1) := by decide +kernel
theorem dX10_sum_3 : decode cX10_sum 3 = .ok (.istore_n 3, 1) := by decide +kernel
theorem dX10_sum_4 : decode cX10_sum 4 = .ok (.iconst 0, 1) := by decide +kernel
theorem dX10_sum_5 : decode cX10_sum 5 = .ok (.istore 4, 2) := by decide +kernel
theorem dX10_sum_7 : decode cX10_sum 7 = .ok (.iload 4, 2) := by decide +kernel
theorem dX10_sum_9 : decode cX10_sum 9 = .ok (.aload_n 0, 1) := by decide +kernel
theorem dX10_sum_10 : decode cX10_sum 10 = .ok (.getfield 99, 3) := by decide +kernel
theorem dX10_sum_13 : decode cX10_sum 13 = .ok (.if_icmp .ge 51, 3) := by decide +kernel
theorem dX10_sum_16 : decode cX10_sum 16 = .ok (.iload_n 2, 1) := by decide +kernel
theorem dX10_sum_17 : decode cX10_sum 17 = .ok (.aload_n 0, 1) := by decide +kernel
theorem dX10_sum_18 : decode cX10_sum 18 = .ok (.iload 4, 2) := by decide +kernel
theorem dX10_sum_20 : decode cX10_sum 20 = .ok (.iload_n 1, 1) := by decide +kernel
theorem dX10_sum_21 : decode cX10_sum 21 = .ok (.invokevirtual 120, 3) := by decide +kernel
theorem dX10_sum_24 : decode cX10_sum 24 = .ok (.ifCond .eq 7, 3) := by decide +kernel
theorem dX10_sum_27 : decode cX10_sum 27 = .ok (.iconst 1, 1) := by decide +kernel
theorem dX10_sum_28 : decode cX10_sum 28 = .ok (.goto 4, 3) := by decide +kernel
theorem dX10_sum_31 : decode cX10_sum 31 = .ok (.iconst 0, 1) := by decide +kernel
theorem dX10_sum_32 : decode cX10_sum 32 = .ok (.iadd, 1) := by decide +kernel
theorem dX10_sum_33 : decode cX10_sum 33 = .ok (.istore_n 2, 1) := by decide +kernel
theorem dX10_sum_34 : decode cX10_sum 34 = .ok (.iload_n 3, 1) := by decide +kernel
theorem dX10_sum_35 : decode cX10_sum 35 = .ok (.aload_n 0, 1) := by decide +kernel
theorem dX10_sum_36 : decode cX10_sum 36 = .ok (.iload 4, 2) := by decide +kernel
theorem dX10_sum_38 : decode cX10_sum 38 = .ok (.iload_n 1, 1) := by decide +kernel
theorem dX10_sum_39 : decode cX10_sum 39 = .ok (.invokevirtual 120, 3) := by decide +kernel
theorem dX10_sum_42 : decode cX10_sum 42 = .ok (.ifCond .eq 13, 3) := by decide +kernel
theorem dX10_sum_45 : decode cX10_sum 45 = .ok (.aload_n 0, 1) := by decide +kernel
theorem dX10_sum_46 : decode cX10_sum 46 = .ok (.iload 4, 2) := by decide +kernel
theorem dX10_sum_48 : decode cX10_sum 48 = .ok (.iload_n 1, 1) := by decide +kernel
theorem dX10_sum_49 : decode cX10_sum 49 = .ok (.invokevirtual 143, 3) := by decide +kernel
theorem dX10_sum_52 : decode cX10_sum 52 = .ok (.goto 4, 3) := by decide +kernel
theorem dX10_sum_55 : decode cX10_sum 55 = .ok (.iconst 0, 1) := by decide +kernel
theorem dX10_sum_56 : decode cX10_sum 56 = .ok (.iadd, 1) := by decide +kernel
theorem dX10_sum_57 : decode cX10_sum 57 = .ok (.istore_n 3, 1) := by decide +kernel
theorem dX10_sum_58 : decode cX10_sum 58 = .ok (.iinc 4 1, 3) := by decide +kernel
theorem dX10_sum_61 : decode cX10_sum 61 = .ok (.goto (-54), 3) := by decide +kernel
theorem dX10_sum_64 : decode cX10_sum 64 = .ok (.aload_n 0, 1) := by decide +kernel
theorem dX10_sum_65 : decode cX10_sum 65 = .ok (.iload_n 2, 1) := by decide +kernel
theorem dX10_sum_66 : decode cX10_sum 66 = .ok (.invokevirtual 147, 3) := by decide +kernel
theorem dX10_sum_69 : decode cX10_sum 69 = .ok (.istore 4, 2) := by decide +kernel
theorem dX10_sum_71 : decode cX10_sum 71 = .ok (.iload_n 3, 1) := by decide +kernel
theorem dX10_sum_72 : decode cX10_sum 72 = .ok (.istore 5, 2) := by decide +kernel
theorem dX10_sum_74 : decode cX10_sum 74 = .ok (.iconst 0, 1) := by decide +kernel
theorem dX10_sum_75 : decode cX10_sum 75 = .ok (.istore 6, 2) := by decide +kernel
theorem dX10_sum_77 : decode cX10_sum 77 = .ok (.iconst 0, 1) := by decide +kernel
theorem dX10_sum_78 : decode cX10_sum 78 = .ok (.istore 7, 2) := by decide +kernel
theorem dX10_sum_80 : decode cX10_sum 80 = .ok (.iload 7, 2) := by decide +kernel
theorem dX10_sum_82 : decode cX10_sum 82 = .ok (.aload_n 0, 1) := by decide +kernel
theorem dX10_sum_83 : decode cX10_sum 83 = .ok (.getfield 99, 3) := by decide +kernel
theorem dX10_sum_86 : decode cX10_sum 86 = .ok (.if_icmp .ge 193, 3) := by decide +kernel
theorem dX10_sum_89 : decode cX10_sum 89 = .ok (.iconst 0, 1) := by decide +kernel
theorem dX10_sum_90 : decode cX10_sum 90 = .ok (.istore 8, 2) := by decide +kernel
theorem dX10_sum_92 : decode cX10_sum 92 = .ok (.iconst 0, 1) := by decide +kernel
theorem dX10_sum_93 : decode cX10_sum 93 = .ok (.istore 9, 2) := by decide +kernel
theorem dX10_sum_95 : decode cX10_sum 95 = .ok (.iload 9, 2) := by decide +kernel
theorem dX10_sum_97 : decode cX10_sum 97 = .ok (.aload_n 0, 1) := by decide +kernel
theorem dX10_sum_98 : decode cX10_sum 98 = .ok (.getfield 99, 3) := by decide +kernel
theorem dX10_sum_101 : decode cX10_sum 101 = .ok (.if_icmp .ge 82, 3) := by decide +kernel
theorem dX10_sum_104 : decode cX10_sum 104 = .ok (.aload_n 0, 1) := by decide +kernel
theorem dX10_sum_105 : decode cX10_sum 105 = .ok (.iload 9, 2) := by decide +kernel
theorem dX10_sum_107 : decode cX10_sum 107 = .ok (.iload_n 1, 1) := by decide +kernel
theorem dX10_sum_108 : decode cX10_sum 108 = .ok (.invokevirtual 143, 3) := by decide +kernel
theorem dX10_sum_111 : decode cX10_sum 111 = .ok (.aload_n 0, 1) := by decide +kernel
theorem dX10_sum_112 : decode cX10_sum 112 = .ok (.iload 7, 2) := by decide +kernel
theorem dX10_sum_114 : decode cX10_sum 114 = .ok (.iload_n 1, 1) := by decide +kernel
theorem dX10_sum_115 : decode cX10_sum 115 = .ok (.invokevirtual 143, 3) := by decide +kernel
theorem dX10_sum_118 : decode cX10_sum 118 = .ok (.if_icmp .gt 27, 3) := by decide +kernel
theorem dX10_sum_121 : decode cX10_sum 121 = .ok (.aload_n 0, 1) := by decide +kernel
theorem dX10_sum_122 : decode cX10_sum 122 = .ok (.iload 9, 2) := by decide +kernel
theorem dX10_sum_124 : decode cX10_sum 124 = .ok (.iload_n 1, 1) := by decide +kernel
theorem dX10_sum_125 : decode cX10_sum 125 = .ok (.invokevirtual 143, 3) := by decide +kernel
theorem dX10_sum_128 : decode cX10_sum 128 = .ok (.aload_n 0, 1) := by decide +kernel
theorem dX10_sum_129 : decode cX10_sum 129 = .ok (.iload 7, 2) := by decide +kernel
theorem dX10_sum_131 : decode cX10_sum 131 = .ok (.iload_n 1, 1) := by decide +kernel
theorem dX10_sum_132 : decode cX10_sum 132 = .ok (.invokevirtual 143, 3) := by decide +kernel
theorem dX10_sum_135 : decode cX10_sum 135 = .ok (.if_icmp .ne 14, 3) := by decide +kernel
theorem dX10_sum_138 : decode cX10_sum 138 = .ok (.iload 9, 2) := by decide +kernel
theorem dX10_sum_140 : decode cX10_sum 140 = .ok (.iload 7, 2) := by decide +kernel
theorem dX10_sum_142 : decode cX10_sum 142 = .ok (.if_icmp .ge 7, 3) := by decide +kernel
theorem dX10_sum_145 : decode cX10_sum 145 = .ok (.iconst 1, 1) := by decide +kernel
theorem dX10_sum_146 : decode cX10_sum 146 = .ok (.goto 4, 3) := by decide +kernel
theorem dX10_sum_149 : decode cX10_sum 149 = .ok (.iconst 0, 1) := by decide +kernel
theorem dX10_sum_150 : decode cX10_sum 150 = .ok (.istore 10, 2) := by decide +kernel
theorem dX10_sum_152 : decode cX10_sum 152 = .ok (.iload 8, 2) := by decide +kernel
theorem dX10_sum_154 : decode cX10_sum 154 = .ok (.aload_n 0, 1) := by decide +kernel
theorem dX10_sum_155 : decode cX10_sum 155 = .ok (.iload 9, 2) := by decide +kernel
theorem dX10_sum_157 : decode cX10_sum 157 = .ok (.iload_n 1, 1) := by decide +kernel
theorem dX10_sum_158 : decode cX10_sum 158 = .ok (.invokevirtual 150, 3) := by decide +kernel
theorem dX10_sum_161 : decode cX10_sum 161 = .ok (.ifCond .eq 12, 3) := by decide +kernel
theorem dX10_sum_164 : decode cX10_sum 164 = .ok (.iload 10, 2) := by decide +kernel
theorem dX10_sum_166 : decode cX10_sum 166 = .ok (.ifCond .eq 7, 3) := by decide +kernel
theorem dX10_sum_169 : decode cX10_sum 169 = .ok (.iconst 1, 1) := by decide +kernel
theorem dX10_sum_170 : decode cX10_sum 170 = .ok (.goto 4, 3) := by decide +kernel
theorem dX10_sum_173 : decode cX10_sum 173 = .ok (.iconst 0, 1) := by decide +kernel
theorem dX10_sum_174 : decode cX10_sum 174 = .ok (.iadd, 1) := by decide +kernel
theorem dX10_sum_175 : decode cX10_sum 175 = .ok (.istore 8, 2) := by decide +kernel
theorem dX10_sum_177 : decode cX10_sum 177 = .ok (.iinc 9 1, 3) := by decide +kernel
theorem dX10_sum_180 : decode cX10_sum 180 = .ok (.goto (-85), 3) := by decide +kernel
theorem dX10_sum_183 : decode cX10_sum 183 = .ok (.aload_n 0, 1) := by decide +kernel
theorem dX10_sum_184 : decode cX10_sum 184 = .ok (.getfield 68, 3) := by decide +kernel
theorem dX10_sum_187 : decode cX10_sum 187 = .ok (.bipush 40, 2) := by decide +kernel
theorem dX10_sum_189 : decode cX10_sum 189 = .ok (.iload 7, 2) := by decide +kernel
theorem dX10_sum_191 : decode cX10_sum 191 = .ok (.imul, 1) := by decide +kernel
theorem dX10_sum_192 : decode cX10_sum 192 = .ok (.iload_n 1, 1) := by decide +kernel
theorem dX10_sum_193 : decode cX10_sum 193 = .ok (.iadd, 1) := by decide +kernel
theorem dX10_sum_194 : decode cX10_sum 194 = .ok (.aload_n 0, 1) := by decide +kernel
theorem dX10_sum_195 : decode cX10_sum 195 = .ok (.iload 7, 2) := by decide +kernel
theorem dX10_sum_197 : decode cX10_sum 197 = .ok (.iload_n 1, 1) := by decide +kernel
theorem dX10_sum_198 : decode cX10_sum 198 = .ok (.invokevirtual 150, 3) := by decide +kernel
theorem dX10_sum_201 : decode cX10_sum 201 = .ok (.ifCond .eq 14, 3) := by decide +kernel
theorem dX10_sum_204 : decode cX10_sum 204 = .ok (.iload 8, 2) := by decide +kernel
theorem dX10_sum_206 : decode cX10_sum 206 = .ok (.iload 4, 2) := by decide +kernel
theorem dX10_sum_208 : decode cX10_sum 208 = .ok (.if_icmp .ge 7, 3) := by decide +kernel
theorem dX10_sum_211 : decode cX10_sum 211 = .ok (.iconst 1, 1) := by decide +kernel
theorem dX10_sum_212 : decode cX10_sum 212 = .ok (.goto 4, 3) := by decide +kernel
theorem dX10_sum_215 : decode cX10_sum 215 = .ok (.iconst 0, 1) := by decide +kernel
theorem dX10_sum_216 : decode cX10_sum 216 = .ok (.bastore, 1) := by decide +kernel
theorem dX10_sum_217 : decode cX10_sum 217 = .ok (.iload 5, 2) := by decide +kernel
theorem dX10_sum_219 : decode cX10_sum 219 = .ok (.aload_n 0, 1) := by decide +kernel
theorem dX10_sum_220 : decode cX10_sum 220 = .ok (.getfield 68, 3) := by decide +kernel
theorem dX10_sum_223 : decode cX10_sum 223 = .ok (.bipush 40, 2) := by decide +kernel
theorem dX10_sum_225 : decode cX10_sum 225 = .ok (.iload 7, 2) := by decide +kernel
theorem dX10_sum_227 : decode cX10_sum 227 = .ok (.imul, 1) := by decide +kernel
theorem dX10_sum_228 : decode cX10_sum 228 = .ok (.iload_n 1, 1) := by decide +kernel
theorem dX10_sum_229 : decode cX10_sum 229 = .ok (.iadd, 1) := by decide +kernel
theorem dX10_sum_230 : decode cX10_sum 230 = .ok (.baload, 1) := by decide +kernel
theorem dX10_sum_231 : decode cX10_sum 231 = .ok (.ifCond .eq 13, 3) := by decide +kernel
theorem dX10_sum_234 : decode cX10_sum 234 = .ok (.aload_n 0, 1) := by decide +kernel
theorem dX10_sum_235 : decode cX10_sum 235 = .ok (.iload 7, 2) := by decide +kernel
theorem dX10_sum_237 : decode cX10_sum 237 = .ok (.iload_n 1, 1) := by decide +kernel
theorem dX10_sum_238 : decode cX10_sum 238 = .ok (.invokevirtual 143, 3) := by decide +kernel
theorem dX10_sum_241 : decode cX10_sum 241 = .ok (.goto 4, 3) := by decide +kernel
theorem dX10_sum_244 : decode cX10_sum 244 = .ok (.iconst 0, 1) := by decide +kernel
theorem dX10_sum_245 : decode cX10_sum 245 = .ok (.isub, 1) := by decide +kernel
theorem dX10_sum_246 : decode cX10_sum 246 = .ok (.istore 5, 2) := by decide +kernel
theorem dX10_sum_248 : decode cX10_sum 248 = .ok (.iload 6, 2) := by decide +kernel
theorem dX10_sum_250 : decode cX10_sum 250 = .ok (.aload_n 0, 1) := by decide +kernel
theorem dX10_sum_251 : decode cX10_sum 251 = .ok (.getfield 68, 3) := by decide +kernel
theorem dX10_sum_254 : decode cX10_sum 254 = .ok (.bipush 40, 2) := by decide +kernel
theorem dX10_sum_256 : decode cX10_sum 256 = .ok (.iload 7, 2) := by decide +kernel
theorem dX10_sum_258 : decode cX10_sum 258 = .ok (.imul, 1) := by decide +kernel
theorem dX10_sum_259 : decode cX10_sum 259 = .ok (.iload_n 1, 1) := by decide +kernel
theorem dX10_sum_260 : decode cX10_sum 260 = .ok (.iadd, 1) := by decide +kernel
theorem dX10_sum_261 : decode cX10_sum 261 = .ok (.baload, 1) := by decide +kernel
theorem dX10_sum_262 : decode cX10_sum 262 = .ok (.ifCond .eq 7, 3) := by decide +kernel
theorem dX10_sum_265 : decode cX10_sum 265 = .ok (.iconst 1, 1) := by decide +kernel
theorem dX10_sum_266 : decode cX10_sum 266 = .ok (.goto 4, 3) := by decide +kernel
theorem dX10_sum_269 : decode cX10_sum 269 = .ok (.iconst 0, 1) := by decide +kernel
theorem dX10_sum_270 : decode cX10_sum 270 = .ok (.iadd, 1) := by decide +kernel
theorem dX10_sum_271 : decode cX10_sum 271 = .ok (.istore 6, 2) := by decide +kernel
theorem dX10_sum_273 : decode cX10_sum 273 = .ok (.iinc 7 1, 3) := by decide +kernel
theorem dX10_sum_276 : decode cX10_sum 276 = .ok (.goto (-196), 3) := by decide +kernel
theorem dX10_sum_279 : decode cX10_sum 279 = .ok (.aload_n 0, 1) := by decide +kernel
theorem dX10_sum_280 : decode cX10_sum 280 = .ok (.getfield 77, 3) := by decide +kernel
theorem dX10_sum_283 : decode cX10_sum 283 = .ok (.iload_n 1, 1) := by decide +kernel
theorem dX10_sum_284 : decode cX10_sum 284 = .ok (.iload_n 2, 1) := by decide +kernel
theorem dX10_sum_285 : decode cX10_sum 285 = .ok (.iastore, 1) := by decide +kernel
theorem dX10_sum_286 : decode cX10_sum 286 = .ok (.aload_n 0, 1) := by decide +kernel
theorem dX10_sum_287 : decode cX10_sum 287 = .ok (.getfield 71, 3) := by decide +kernel
theorem dX10_sum_290 : decode cX10_sum 290 = .ok (.iload_n 1, 1) := by decide +kernel
theorem dX10_sum_291 : decode cX10_sum 291 = .ok (.iload_n 3, 1) := by decide +kernel
theorem dX10_sum_292 : decode cX10_sum 292 = .ok (.iastore, 1) := by decide +kernel
theorem dX10_sum_293 : decode cX10_sum 293 = .ok (.aload_n 0, 1) := by decide +kernel
theorem dX10_sum_294 : decode cX10_sum 294 = .ok (.getfield 74, 3) := by decide +kernel
theorem dX10_sum_297 : decode cX10_sum 297 = .ok (.iload_n 1, 1) := by decide +kernel
theorem dX10_sum_298 : decode cX10_sum 298 = .ok (.iload 5, 2) := by decide +kernel
theorem dX10_sum_300 : decode cX10_sum 300 = .ok (.iastore, 1) := by decide +kernel
theorem dX10_sum_301 : decode cX10_sum 301 = .ok (.aload_n 0, 1) := by decide +kernel
theorem dX10_sum_302 : decode cX10_sum 302 = .ok (.getfield 80, 3) := by decide +kernel
theorem dX10_sum_305 : decode cX10_sum 305 = .ok (.iload_n 1, 1) := by decide +kernel
theorem dX10_sum_306 : decode cX10_sum 306 = .ok (.iload 6, 2) := by decide +kernel
theorem dX10_sum_308 : decode cX10_sum 308 = .ok (.iastore, 1) := by decide +kernel
theorem dX10_sum_309 : decode cX10_sum 309 = .ok (.return_, 1) := by decide +kernel
theorem dX10_many_0 : decode cX10_many 0 = .ok (.iconst 0, 1) := by decide +kernel
theorem dX10_many_1 : decode cX10_many 1 = .ok (.istore_n 3, 1) := by decide +kernel
theorem dX10_many_2 : decode cX10_many 2 = .ok (.iconst 0, 1) := by decide +kernel
theorem dX10_many_3 : decode cX10_many 3 = .ok (.istore 4, 2) := by decide +kernel
theorem dX10_many_5 : decode cX10_many 5 = .ok (.iload 4, 2) := by decide +kernel
theorem dX10_many_7 : decode cX10_many 7 = .ok (.aload_n 0, 1) := by decide +kernel
theorem dX10_many_8 : decode cX10_many 8 = .ok (.getfield 99, 3) := by decide +kernel
theorem dX10_many_11 : decode cX10_many 11 = .ok (.if_icmp .ge 53, 3) := by decide +kernel
theorem dX10_many_14 : decode cX10_many 14 = .ok (.iload_n 3, 1) := by decide +kernel
theorem dX10_many_15 : decode cX10_many 15 = .ok (.aload_n 0, 1) := by decide +kernel
theorem dX10_many_16 : decode cX10_many 16 = .ok (.iload 4, 2) := by decide +kernel
theorem dX10_many_18 : decode cX10_many 18 = .ok (.iload_n 1, 1) := by decide +kernel
theorem dX10_many_19 : decode cX10_many 19 = .ok (.invokevirtual 120, 3) := by decide +kernel
theorem dX10_many_22 : decode cX10_many 22 = .ok (.ifCond .eq 33, 3) := by decide +kernel
theorem dX10_many_25 : decode cX10_many 25 = .ok (.aload_n 0, 1) := by decide +kernel
theorem dX10_many_26 : decode cX10_many 26 = .ok (.getfield 68, 3) := by decide +kernel
theorem dX10_many_29 : decode cX10_many 29 = .ok (.bipush 40, 2) := by decide +kernel
theorem dX10_many_31 : decode cX10_many 31 = .ok (.iload 4, 2) := by decide +kernel
theorem dX10_many_33 : decode cX10_many 33 = .ok (.imul, 1) := by decide +kernel
theorem dX10_many_34 : decode cX10_many 34 = .ok (.iload_n 1, 1) := by decide +kernel
theorem dX10_many_35 : decode cX10_many 35 = .ok (.iadd, 1) := by decide +kernel
theorem dX10_many_36 : decode cX10_many 36 = .ok (.baload, 1) := by decide +kernel
theorem dX10_many_37 : decode cX10_many 37 = .ok (.ifCond .ne 18, 3) := by decide +kernel
theorem dX10_many_40 : decode cX10_many 40 = .ok (.aload_n 0, 1) := by decide +kernel
theorem dX10_many_41 : decode cX10_many 41 = .ok (.iload 4, 2) := by decide +kernel
theorem dX10_many_43 : decode cX10_many 43 = .ok (.iload_n 1, 1) := by decide +kernel
theorem dX10_many_44 : decode cX10_many 44 = .ok (.invokevirtual 143, 3) := by decide +kernel
theorem dX10_many_47 : decode cX10_many 47 = .ok (.iload_n 2, 1) := by decide +kernel
theorem dX10_many_48 : decode cX10_many 48 = .ok (.if_icmp .ne 7, 3) := by decide +kernel
theorem dX10_many_51 : decode cX10_many 51 = .ok (.iconst 1, 1) := by decide +kernel
theorem dX10_many_52 : decode cX10_many 52 = .ok (.goto 4, 3) := by decide +kernel
theorem dX10_many_55 : decode cX10_many 55 = .ok (.iconst 0, 1) := by decide +kernel
theorem dX10_many_56 : decode cX10_many 56 = .ok (.iadd, 1) := by decide +kernel
theorem dX10_many_57 : decode cX10_many 57 = .ok (.istore_n 3, 1) := by decide +kernel
theorem dX10_many_58 : decode cX10_many 58 = .ok (.iinc 4 1, 3) := by decide +kernel
theorem dX10_many_61 : decode cX10_many 61 = .ok (.goto (-56), 3) := by decide +kernel
theorem dX10_many_64 : decode cX10_many 64 = .ok (.iload_n 3, 1) := by decide +kernel
theorem dX10_many_65 : decode cX10_many 65 = .ok (.ireturn, 1) := by decide +kernel
theorem dX10_byScores_0 : decode cX10_byScores 0 = .ok (.iconst (-1), 1) := by decide +kernel
theorem dX10_byScores_1 : decode cX10_byScores 1 = .ok (.istore_n 3, 1) := by decide +kernel
theorem dX10_byScores_2 : decode cX10_byScores 2 = .ok (.iconst 0, 1) := by decide +kernel
theorem dX10_byScores_3 : decode cX10_byScores 3 = .ok (.istore 4, 2) := by decide +kernel
theorem dX10_byScores_5 : decode cX10_byScores 5 = .ok (.iconst 0, 1) := by decide +kernel
theorem dX10_byScores_6 : decode cX10_byScores 6 = .ok (.istore 5, 2) := by decide +kernel
theorem dX10_byScores_8 : decode cX10_byScores 8 = .ok (.iload 5, 2) := by decide +kernel
theorem dX10_byScores_10 : decode cX10_byScores 10 = .ok (.iconst 2, 1) := by decide +kernel
theorem dX10_byScores_11 : decode cX10_byScores 11 = .ok (.aload_n 0, 1) := by decide +kernel
theorem dX10_byScores_12 : decode cX10_byScores 12 = .ok (.getfield 99, 3) := by decide +kernel
theorem dX10_byScores_15 : decode cX10_byScores 15 = .ok (.imul, 1) := by decide +kernel
theorem dX10_byScores_16 : decode cX10_byScores 16 = .ok (.if_icmp .ge 123, 3) := by decide +kernel
theorem dX10_byScores_19 : decode cX10_byScores 19 = .ok (.iload 5, 2) := by decide +kernel
theorem dX10_byScores_21 : decode cX10_byScores 21 = .ok (.aload_n 0, 1) := by decide +kernel
theorem dX10_byScores_22 : decode cX10_byScores 22 = .ok (.getfield 99, 3) := by decide +kernel
theorem dX10_byScores_25 : decode cX10_byScores 25 = .ok (.if_icmp .ge 7, 3) := by decide +kernel
theorem dX10_byScores_28 : decode cX10_byScores 28 = .ok (.iload_n 1, 1) := by decide +kernel
theorem dX10_byScores_29 : decode cX10_byScores 29 = .ok (.goto 4, 3) := by decide +kernel
theorem dX10_byScores_32 : decode cX10_byScores 32 = .ok (.iload_n 2, 1) := by decide +kernel
theorem dX10_byScores_33 : decode cX10_byScores 33 = .ok (.istore 6, 2) := by decide +kernel
theorem dX10_byScores_35 : decode cX10_byScores 35 = .ok (.iload 5, 2) := by decide +kernel
theorem dX10_byScores_37 : decode cX10_byScores 37 = .ok (.aload_n 0, 1) := by decide +kernel
theorem dX10_byScores_38 : decode cX10_byScores 38 = .ok (.getfield 99, 3) := by decide +kernel
theorem dX10_byScores_41 : decode cX10_byScores 41 = .ok (.irem, 1) := by decide +kernel
theorem dX10_byScores_42 : decode cX10_byScores 42 = .ok (.istore 7, 2) := by decide +kernel
theorem dX10_byScores_44 : decode cX10_byScores 44 = .ok (.aload_n 0, 1) := by decide +kernel
theorem dX10_byScores_45 : decode cX10_byScores 45 = .ok (.iload 7, 2) := by decide +kernel
theorem dX10_byScores_47 : decode cX10_byScores 47 = .ok (.iload 6, 2) := by decide +kernel
theorem dX10_byScores_49 : decode cX10_byScores 49 = .ok (.invokevirtual 120, 3) := by decide +kernel
theorem dX10_byScores_52 : decode cX10_byScores 52 = .ok (.ifCond .eq 30, 3) := by decide +kernel
theorem dX10_byScores_55 : decode cX10_byScores 55 = .ok (.aload_n 0, 1) := by decide +kernel
theorem dX10_byScores_56 : decode cX10_byScores 56 = .ok (.getfield 68, 3) := by decide +kernel
theorem dX10_byScores_59 : decode cX10_byScores 59 = .ok (.bipush 40, 2) := by decide +kernel
theorem dX10_byScores_61 : decode cX10_byScores 61 = .ok (.iload 7, 2) := by decide +kernel
theorem dX10_byScores_63 : decode cX10_byScores 63 = .ok (.imul, 1) := by decide +kernel
theorem dX10_byScores_64 : decode cX10_byScores 64 = .ok (.iload 6, 2) := by decide +kernel
theorem dX10_byScores_66 : decode cX10_byScores 66 = .ok (.iadd, 1) := by decide +kernel
theorem dX10_byScores_67 : decode cX10_byScores 67 = .ok (.baload, 1) := by decide +kernel
theorem dX10_byScores_68 : decode cX10_byScores 68 = .ok (.ifCond .ne 14, 3) := by decide +kernel
theorem dX10_byScores_71 : decode cX10_byScores 71 = .ok (.aload_n 0, 1) := by decide +kernel
theorem dX10_byScores_72 : decode cX10_byScores 72 = .ok (.iload 7, 2) := by decide +kernel
theorem dX10_byScores_74 : decode cX10_byScores 74 = .ok (.iload 6, 2) := by decide +kernel
theorem dX10_byScores_76 : decode cX10_byScores 76 = .ok (.invokevirtual 143, 3) := by decide +kernel
theorem dX10_byScores_79 : decode cX10_byScores 79 = .ok (.goto 4, 3) := by decide +kernel
theorem dX10_byScores_82 : decode cX10_byScores 82 = .ok (.iconst (-1), 1) := by decide +kernel
theorem dX10_byScores_83 : decode cX10_byScores 83 = .ok (.istore 8, 2) := by decide +kernel
theorem dX10_byScores_85 : decode cX10_byScores 85 = .ok (.iload 8, 2) := by decide +kernel
theorem dX10_byScores_87 : decode cX10_byScores 87 = .ok (.ifCond .ge 7, 3) := by decide +kernel
theorem dX10_byScores_90 : decode cX10_byScores 90 = .ok (.iconst 0, 1) := by decide +kernel
theorem dX10_byScores_91 : decode cX10_byScores 91 = .ok (.goto 18, 3) := by decide +kernel
theorem dX10_byScores_94 : decode cX10_byScores 94 = .ok (.aload_n 0, 1) := by decide +kernel
theorem dX10_byScores_95 : decode cX10_byScores 95 = .ok (.iload_n 2, 1) := by decide +kernel
theorem dX10_byScores_96 : decode cX10_byScores 96 = .ok (.iload 8, 2) := by decide +kernel
theorem dX10_byScores_98 : decode cX10_byScores 98 = .ok (.invokevirtual 153, 3) := by decide +kernel
theorem dX10_byScores_101 : decode cX10_byScores 101 = .ok (.aload_n 0, 1) := by decide +kernel
theorem dX10_byScores_102 : decode cX10_byScores 102 = .ok (.iload_n 1, 1) := by decide +kernel
theorem dX10_byScores_103 : decode cX10_byScores 103 = .ok (.iload 8, 2) := by decide +kernel
theorem dX10_byScores_105 : decode cX10_byScores 105 = .ok (.invokevirtual 153, 3) := by decide +kernel
theorem dX10_byScores_108 : decode cX10_byScores 108 = .ok (.isub, 1) := by decide +kernel
theorem dX10_byScores_109 : decode cX10_byScores 109 = .ok (.istore 9, 2) := by decide +kernel
theorem dX10_byScores_111 : decode cX10_byScores 111 = .ok (.iload 9, 2) := by decide +kernel
theorem dX10_byScores_113 : decode cX10_byScores 113 = .ok (.ifCond .eq 20, 3) := by decide +kernel
theorem dX10_byScores_116 : decode cX10_byScores 116 = .ok (.iload_n 3, 1) := by decide +kernel
theorem dX10_byScores_117 : decode cX10_byScores 117 = .ok (.ifCond .lt 9, 3) := by decide +kernel
theorem dX10_byScores_120 : decode cX10_byScores 120 = .ok (.iload 8, 2) := by decide +kernel
theorem dX10_byScores_122 : decode cX10_byScores 122 = .ok (.iload_n 3, 1) := by decide +kernel
theorem dX10_byScores_123 : decode cX10_byScores 123 = .ok (.if_icmp .ge 10, 3) := by decide +kernel
theorem dX10_byScores_126 : decode cX10_byScores 126 = .ok (.iload 8, 2) := by decide +kernel
theorem dX10_byScores_128 : decode cX10_byScores 128 = .ok (.istore_n 3, 1) := by decide +kernel
theorem dX10_byScores_129 : decode cX10_byScores 129 = .ok (.iload 9, 2) := by decide +kernel
theorem dX10_byScores_131 : decode cX10_byScores 131 = .ok (.istore 4, 2) := by decide +kernel
theorem dX10_byScores_133 : decode cX10_byScores 133 = .ok (.iinc 5 1, 3) := by decide +kernel
theorem dX10_byScores_136 : decode cX10_byScores 136 = .ok (.goto (-128), 3) := by decide +kernel
theorem dX10_byScores_139 : decode cX10_byScores 139 = .ok (.iload 4, 2) := by decide +kernel
theorem dX10_byScores_141 : decode cX10_byScores 141 = .ok (.ireturn, 1) := by decide +kernel
theorem dX10_fromTheLast_0 : decode cX10_fromTheLast 0 = .ok (.iconst 0, 1) := by decide +kernel
theorem dX10_fromTheLast_1 : decode cX10_fromTheLast 1 = .ok (.istore_n 3, 1) := by decide +kernel
theorem dX10_fromTheLast_2 : decode cX10_fromTheLast 2 = .ok (.aload_n 0, 1) := by decide +kernel
theorem dX10_fromTheLast_3 : decode cX10_fromTheLast 3 = .ok (.getfield 99, 3) := by decide +kernel
theorem dX10_fromTheLast_6 : decode cX10_fromTheLast 6 = .ok (.iconst 1, 1) := by decide +kernel
theorem dX10_fromTheLast_7 : decode cX10_fromTheLast 7 = .ok (.isub, 1) := by decide +kernel
theorem dX10_fromTheLast_8 : decode cX10_fromTheLast 8 = .ok (.istore 4, 2) := by decide +kernel
theorem dX10_fromTheLast_10 : decode cX10_fromTheLast 10 = .ok (.iload 4, 2) := by decide +kernel
theorem dX10_fromTheLast_12 : decode cX10_fromTheLast 12 = .ok (.ifCond .lt 53, 3) := by decide +kernel
theorem dX10_fromTheLast_15 : decode cX10_fromTheLast 15 = .ok (.iload_n 3, 1) := by decide +kernel
theorem dX10_fromTheLast_16 : decode cX10_fromTheLast 16 = .ok (.ifCond .ne 49, 3) := by decide +kernel
theorem dX10_fromTheLast_19 : decode cX10_fromTheLast 19 = .ok (.aload_n 0, 1) := by decide +kernel
theorem dX10_fromTheLast_20 : decode cX10_fromTheLast 20 = .ok (.iload 4, 2) := by decide +kernel
theorem dX10_fromTheLast_22 : decode cX10_fromTheLast 22 = .ok (.iload_n 1, 1) := by decide +kernel
theorem dX10_fromTheLast_23 : decode cX10_fromTheLast 23 = .ok (.invokevirtual 120, 3) := by decide +kernel
theorem dX10_fromTheLast_26 : decode cX10_fromTheLast 26 = .ok (.ifCond .eq 31, 3) := by decide +kernel
theorem dX10_fromTheLast_29 : decode cX10_fromTheLast 29 = .ok (.aload_n 0, 1) := by decide +kernel
theorem dX10_fromTheLast_30 : decode cX10_fromTheLast 30 = .ok (.iload 4, 2) := by decide +kernel
theorem dX10_fromTheLast_32 : decode cX10_fromTheLast 32 = .ok (.iload_n 2, 1) := by decide +kernel
theorem dX10_fromTheLast_33 : decode cX10_fromTheLast 33 = .ok (.invokevirtual 120, 3) := by decide +kernel
theorem dX10_fromTheLast_36 : decode cX10_fromTheLast 36 = .ok (.ifCond .eq 21, 3) := by decide +kernel
theorem dX10_fromTheLast_39 : decode cX10_fromTheLast 39 = .ok (.aload_n 0, 1) := by decide +kernel
theorem dX10_fromTheLast_40 : decode cX10_fromTheLast 40 = .ok (.iload 4, 2) := by decide +kernel
theorem dX10_fromTheLast_42 : decode cX10_fromTheLast 42 = .ok (.iload_n 1, 1) := by decide +kernel
theorem dX10_fromTheLast_43 : decode cX10_fromTheLast 43 = .ok (.invokevirtual 143, 3) := by decide +kernel
theorem dX10_fromTheLast_46 : decode cX10_fromTheLast 46 = .ok (.aload_n 0, 1) := by decide +kernel
theorem dX10_fromTheLast_47 : decode cX10_fromTheLast 47 = .ok (.iload 4, 2) := by decide +kernel
theorem dX10_fromTheLast_49 : decode cX10_fromTheLast 49 = .ok (.iload_n 2, 1) := by decide +kernel
theorem dX10_fromTheLast_50 : decode cX10_fromTheLast 50 = .ok (.invokevirtual 143, 3) := by decide +kernel
theorem dX10_fromTheLast_53 : decode cX10_fromTheLast 53 = .ok (.isub, 1) := by decide +kernel
theorem dX10_fromTheLast_54 : decode cX10_fromTheLast 54 = .ok (.goto 4, 3) := by decide +kernel
theorem dX10_fromTheLast_57 : decode cX10_fromTheLast 57 = .ok (.iconst 0, 1) := by decide +kernel
theorem dX10_fromTheLast_58 : decode cX10_fromTheLast 58 = .ok (.istore_n 3, 1) := by decide +kernel
theorem dX10_fromTheLast_59 : decode cX10_fromTheLast 59 = .ok (.iinc 4 (-1), 3) := by decide +kernel
theorem dX10_fromTheLast_62 : decode cX10_fromTheLast 62 = .ok (.goto (-52), 3) := by decide +kernel
theorem dX10_fromTheLast_65 : decode cX10_fromTheLast 65 = .ok (.iload_n 3, 1) := by decide +kernel
theorem dX10_fromTheLast_66 : decode cX10_fromTheLast 66 = .ok (.ireturn, 1) := by decide +kernel
theorem dX10_order_0 : decode cX10_order 0 = .ok (.aload_n 0, 1) := by decide +kernel
theorem dX10_order_1 : decode cX10_order 1 = .ok (.iconst 0, 1) := by decide +kernel
theorem dX10_order_2 : decode cX10_order 2 = .ok (.putfield 156, 3) := by decide +kernel
theorem dX10_order_5 : decode cX10_order 5 = .ok (.aload_n 0, 1) := by decide +kernel
theorem dX10_order_6 : decode cX10_order 6 = .ok (.getfield 13, 3) := by decide +kernel
theorem dX10_order_9 : decode cX10_order 9 = .ok (.iload_n 1, 1) := by decide +kernel
theorem dX10_order_10 : decode cX10_order 10 = .ok (.iaload, 1) := by decide +kernel
theorem dX10_order_11 : decode cX10_order 11 = .ok (.aload_n 0, 1) := by decide +kernel
theorem dX10_order_12 : decode cX10_order 12 = .ok (.getfield 13, 3) := by decide +kernel
theorem dX10_order_15 : decode cX10_order 15 = .ok (.iload_n 2, 1) := by decide +kernel
theorem dX10_order_16 : decode cX10_order 16 = .ok (.iaload, 1) := by decide +kernel
theorem dX10_order_17 : decode cX10_order 17 = .ok (.if_icmp .eq 17, 3) := by decide +kernel
theorem dX10_order_20 : decode cX10_order 20 = .ok (.aload_n 0, 1) := by decide +kernel
theorem dX10_order_21 : decode cX10_order 21 = .ok (.getfield 13, 3) := by decide +kernel
theorem dX10_order_24 : decode cX10_order 24 = .ok (.iload_n 1, 1) := by decide +kernel
theorem dX10_order_25 : decode cX10_order 25 = .ok (.iaload, 1) := by decide +kernel
theorem dX10_order_26 : decode cX10_order 26 = .ok (.aload_n 0, 1) := by decide +kernel
theorem dX10_order_27 : decode cX10_order 27 = .ok (.getfield 13, 3) := by decide +kernel
theorem dX10_order_30 : decode cX10_order 30 = .ok (.iload_n 2, 1) := by decide +kernel
theorem dX10_order_31 : decode cX10_order 31 = .ok (.iaload, 1) := by decide +kernel
theorem dX10_order_32 : decode cX10_order 32 = .ok (.isub, 1) := by decide +kernel
theorem dX10_order_33 : decode cX10_order 33 = .ok (.ireturn, 1) := by decide +kernel
theorem dX10_order_34 : decode cX10_order 34 = .ok (.aload_n 0, 1) := by decide +kernel
theorem dX10_order_35 : decode cX10_order 35 = .ok (.getfield 74, 3) := by decide +kernel
theorem dX10_order_38 : decode cX10_order 38 = .ok (.iload_n 1, 1) := by decide +kernel
theorem dX10_order_39 : decode cX10_order 39 = .ok (.iaload, 1) := by decide +kernel
theorem dX10_order_40 : decode cX10_order 40 = .ok (.aload_n 0, 1) := by decide +kernel
theorem dX10_order_41 : decode cX10_order 41 = .ok (.getfield 74, 3) := by decide +kernel
theorem dX10_order_44 : decode cX10_order 44 = .ok (.iload_n 2, 1) := by decide +kernel
theorem dX10_order_45 : decode cX10_order 45 = .ok (.iaload, 1) := by decide +kernel
theorem dX10_order_46 : decode cX10_order 46 = .ok (.if_icmp .eq 17, 3) := by decide +kernel
theorem dX10_order_49 : decode cX10_order 49 = .ok (.aload_n 0, 1) := by decide +kernel
theorem dX10_order_50 : decode cX10_order 50 = .ok (.getfield 74, 3) := by decide +kernel
theorem dX10_order_53 : decode cX10_order 53 = .ok (.iload_n 1, 1) := by decide +kernel
theorem dX10_order_54 : decode cX10_order 54 = .ok (.iaload, 1) := by decide +kernel
theorem dX10_order_55 : decode cX10_order 55 = .ok (.aload_n 0, 1) := by decide +kernel
theorem dX10_order_56 : decode cX10_order 56 = .ok (.getfield 74, 3) := by decide +kernel
theorem dX10_order_59 : decode cX10_order 59 = .ok (.iload_n 2, 1) := by decide +kernel
theorem dX10_order_60 : decode cX10_order 60 = .ok (.iaload, 1) := by decide +kernel
theorem dX10_order_61 : decode cX10_order 61 = .ok (.isub, 1) := by decide +kernel
theorem dX10_order_62 : decode cX10_order 62 = .ok (.ireturn, 1) := by decide +kernel
theorem dX10_order_63 : decode cX10_order 63 = .ok (.aload_n 0, 1) := by decide +kernel
theorem dX10_order_64 : decode cX10_order 64 = .ok (.iconst 1, 1) := by decide +kernel
theorem dX10_order_65 : decode cX10_order 65 = .ok (.putfield 156, 3) := by decide +kernel
theorem dX10_order_68 : decode cX10_order 68 = .ok (.aload_n 0, 1) := by decide +kernel
theorem dX10_order_69 : decode cX10_order 69 = .ok (.iload_n 1, 1) := by decide +kernel
theorem dX10_order_70 : decode cX10_order 70 = .ok (.iload_n 2, 1) := by decide +kernel
theorem dX10_order_71 : decode cX10_order 71 = .ok (.invokevirtual 159, 3) := by decide +kernel
theorem dX10_order_74 : decode cX10_order 74 = .ok (.istore_n 3, 1) := by decide +kernel
theorem dX10_order_75 : decode cX10_order 75 = .ok (.iload_n 3, 1) := by decide +kernel
theorem dX10_order_76 : decode cX10_order 76 = .ok (.ifCond .ne 15, 3) := by decide +kernel
theorem dX10_order_79 : decode cX10_order 79 = .ok (.aload_n 0, 1) := by decide +kernel
theorem dX10_order_80 : decode cX10_order 80 = .ok (.iconst 2, 1) := by decide +kernel
theorem dX10_order_81 : decode cX10_order 81 = .ok (.putfield 156, 3) := by decide +kernel
theorem dX10_order_84 : decode cX10_order 84 = .ok (.aload_n 0, 1) := by decide +kernel
theorem dX10_order_85 : decode cX10_order 85 = .ok (.iload_n 1, 1) := by decide +kernel
theorem dX10_order_86 : decode cX10_order 86 = .ok (.iload_n 2, 1) := by decide +kernel
theorem dX10_order_87 : decode cX10_order 87 = .ok (.invokevirtual 162, 3) := by decide +kernel
theorem dX10_order_90 : decode cX10_order 90 = .ok (.istore_n 3, 1) := by decide +kernel
theorem dX10_order_91 : decode cX10_order 91 = .ok (.iload_n 3, 1) := by decide +kernel
theorem dX10_order_92 : decode cX10_order 92 = .ok (.ifCond .ne 52, 3) := by decide +kernel
theorem dX10_order_95 : decode cX10_order 95 = .ok (.aload_n 0, 1) := by decide +kernel
theorem dX10_order_96 : decode cX10_order 96 = .ok (.iconst 3, 1) := by decide +kernel
theorem dX10_order_97 : decode cX10_order 97 = .ok (.putfield 156, 3) := by decide +kernel
theorem dX10_order_100 : decode cX10_order 100 = .ok (.aload_n 0, 1) := by decide +kernel
theorem dX10_order_101 : decode cX10_order 101 = .ok (.getfield 7, 3) := by decide +kernel
theorem dX10_order_104 : decode cX10_order 104 = .ok (.iload_n 1, 1) := by decide +kernel
theorem dX10_order_105 : decode cX10_order 105 = .ok (.iaload, 1) := by decide +kernel
theorem dX10_order_106 : decode cX10_order 106 = .ok (.ifCond .ne 9, 3) := by decide +kernel
theorem dX10_order_109 : decode cX10_order 109 = .ok (.sipush 1000, 3) := by decide +kernel
theorem dX10_order_112 : decode cX10_order 112 = .ok (.goto 9, 3) := by decide +kernel
theorem dX10_order_115 : decode cX10_order 115 = .ok (.aload_n 0, 1) := by decide +kernel
theorem dX10_order_116 : decode cX10_order 116 = .ok (.getfield 7, 3) := by decide +kernel
theorem dX10_order_119 : decode cX10_order 119 = .ok (.iload_n 1, 1) := by decide +kernel
theorem dX10_order_120 : decode cX10_order 120 = .ok (.iaload, 1) := by decide +kernel
theorem dX10_order_121 : decode cX10_order 121 = .ok (.aload_n 0, 1) := by decide +kernel
theorem dX10_order_122 : decode cX10_order 122 = .ok (.getfield 7, 3) := by decide +kernel
theorem dX10_order_125 : decode cX10_order 125 = .ok (.iload_n 2, 1) := by decide +kernel
theorem dX10_order_126 : decode cX10_order 126 = .ok (.iaload, 1) := by decide +kernel
theorem dX10_order_127 : decode cX10_order 127 = .ok (.ifCond .ne 9, 3) := by decide +kernel
theorem dX10_order_130 : decode cX10_order 130 = .ok (.sipush 1000, 3) := by decide +kernel
theorem dX10_order_133 : decode cX10_order 133 = .ok (.goto 9, 3) := by decide +kernel
theorem dX10_order_136 : decode cX10_order 136 = .ok (.aload_n 0, 1) := by decide +kernel
theorem dX10_order_137 : decode cX10_order 137 = .ok (.getfield 7, 3) := by decide +kernel
theorem dX10_order_140 : decode cX10_order 140 = .ok (.iload_n 2, 1) := by decide +kernel
theorem dX10_order_141 : decode cX10_order 141 = .ok (.iaload, 1) := by decide +kernel
theorem dX10_order_142 : decode cX10_order 142 = .ok (.isub, 1) := by decide +kernel
theorem dX10_order_143 : decode cX10_order 143 = .ok (.istore_n 3, 1) := by decide +kernel
theorem dX10_order_144 : decode cX10_order 144 = .ok (.iload_n 3, 1) := by decide +kernel
theorem dX10_order_145 : decode cX10_order 145 = .ok (.ifCond .ne 12, 3) := by decide +kernel
theorem dX10_order_148 : decode cX10_order 148 = .ok (.aload_n 0, 1) := by decide +kernel
theorem dX10_order_149 : decode cX10_order 149 = .ok (.iconst 4, 1) := by decide +kernel
theorem dX10_order_150 : decode cX10_order 150 = .ok (.putfield 156, 3) := by decide +kernel
theorem dX10_order_153 : decode cX10_order 153 = .ok (.iload_n 1, 1) := by decide +kernel
theorem dX10_order_154 : decode cX10_order 154 = .ok (.iload_n 2, 1) := by decide +kernel
theorem dX10_order_155 : decode cX10_order 155 = .ok (.isub, 1) := by decide +kernel
theorem dX10_order_156 : decode cX10_order 156 = .ok (.istore_n 3, 1) := by decide +kernel
theorem dX10_order_157 : decode cX10_order 157 = .ok (.iload_n 3, 1) := by decide +kernel
theorem dX10_order_158 : decode cX10_order 158 = .ok (.ireturn, 1) := by decide +kernel
theorem dX10_rankOf_0 : decode cX10_rankOf 0 = .ok (.iconst 1, 1) := by decide +kernel
theorem dX10_rankOf_1 : decode cX10_rankOf 1 = .ok (.istore_n 2, 1) := by decide +kernel
theorem dX10_rankOf_2 : decode cX10_rankOf 2 = .ok (.iconst 0, 1) := by decide +kernel
theorem dX10_rankOf_3 : decode cX10_rankOf 3 = .ok (.istore_n 3, 1) := by decide +kernel
theorem dX10_rankOf_4 : decode cX10_rankOf 4 = .ok (.iload_n 3, 1) := by decide +kernel
theorem dX10_rankOf_5 : decode cX10_rankOf 5 = .ok (.aload_n 0, 1) := by decide +kernel
theorem dX10_rankOf_6 : decode cX10_rankOf 6 = .ok (.getfield 102, 3) := by decide +kernel
theorem dX10_rankOf_9 : decode cX10_rankOf 9 = .ok (.if_icmp .ge 31, 3) := by decide +kernel
theorem dX10_rankOf_12 : decode cX10_rankOf 12 = .ok (.iload_n 2, 1) := by decide +kernel
theorem dX10_rankOf_13 : decode cX10_rankOf 13 = .ok (.iload_n 3, 1) := by decide +kernel
theorem dX10_rankOf_14 : decode cX10_rankOf 14 = .ok (.iload_n 1, 1) := by decide +kernel
theorem dX10_rankOf_15 : decode cX10_rankOf 15 = .ok (.if_icmp .eq 16, 3) := by decide +kernel
theorem dX10_rankOf_18 : decode cX10_rankOf 18 = .ok (.aload_n 0, 1) := by decide +kernel
theorem dX10_rankOf_19 : decode cX10_rankOf 19 = .ok (.iload_n 3, 1) := by decide +kernel
theorem dX10_rankOf_20 : decode cX10_rankOf 20 = .ok (.iload_n 1, 1) := by decide +kernel
theorem dX10_rankOf_21 : decode cX10_rankOf 21 = .ok (.invokevirtual 165, 3) := by decide +kernel
theorem dX10_rankOf_24 : decode cX10_rankOf 24 = .ok (.ifCond .ge 7, 3) := by decide +kernel
theorem dX10_rankOf_27 : decode cX10_rankOf 27 = .ok (.iconst 1, 1) := by decide +kernel
theorem dX10_rankOf_28 : decode cX10_rankOf 28 = .ok (.goto 4, 3) := by decide +kernel
theorem dX10_rankOf_31 : decode cX10_rankOf 31 = .ok (.iconst 0, 1) := by decide +kernel
theorem dX10_rankOf_32 : decode cX10_rankOf 32 = .ok (.iadd, 1) := by decide +kernel
theorem dX10_rankOf_33 : decode cX10_rankOf 33 = .ok (.istore_n 2, 1) := by decide +kernel
theorem dX10_rankOf_34 : decode cX10_rankOf 34 = .ok (.iinc 3 1, 3) := by decide +kernel
theorem dX10_rankOf_37 : decode cX10_rankOf 37 = .ok (.goto (-33), 3) := by decide +kernel
theorem dX10_rankOf_40 : decode cX10_rankOf 40 = .ok (.iload_n 2, 1) := by decide +kernel
theorem dX10_rankOf_41 : decode cX10_rankOf 41 = .ok (.ireturn, 1) := by decide +kernel
theorem dX10_boat_0 : decode cX10_boat 0 = .ok (.aload_n 0, 1) := by decide +kernel
theorem dX10_boat_1 : decode cX10_boat 1 = .ok (.aload_n 0, 1) := by decide +kernel
theorem dX10_boat_2 : decode cX10_boat 2 = .ok (.getfield 168, 3) := by decide +kernel
theorem dX10_boat_5 : decode cX10_boat 5 = .ok (.ifCond .eq 7, 3) := by decide +kernel
theorem dX10_boat_8 : decode cX10_boat 8 = .ok (.iconst 1, 1) := by decide +kernel
theorem dX10_boat_9 : decode cX10_boat 9 = .ok (.goto 17, 3) := by decide +kernel
theorem dX10_boat_12 : decode cX10_boat 12 = .ok (.aload_n 0, 1) := by decide +kernel
theorem dX10_boat_13 : decode cX10_boat 13 = .ok (.getfield 102, 3) := by decide +kernel
theorem dX10_boat_16 : decode cX10_boat 16 = .ok (.bipush 40, 2) := by decide +kernel
theorem dX10_boat_18 : decode cX10_boat 18 = .ok (.if_icmp .ne 7, 3) := by decide +kernel
theorem dX10_boat_21 : decode cX10_boat 21 = .ok (.iconst 2, 1) := by decide +kernel
theorem dX10_boat_22 : decode cX10_boat 22 = .ok (.goto 4, 3) := by decide +kernel
theorem dX10_boat_25 : decode cX10_boat 25 = .ok (.iconst 0, 1) := by decide +kernel
theorem dX10_boat_26 : decode cX10_boat 26 = .ok (.putfield 89, 3) := by decide +kernel
theorem dX10_boat_29 : decode cX10_boat 29 = .ok (.aload_n 0, 1) := by decide +kernel
theorem dX10_boat_30 : decode cX10_boat 30 = .ok (.getfield 89, 3) := by decide +kernel
theorem dX10_boat_33 : decode cX10_boat 33 = .ok (.ifCond .le 5, 3) := by decide +kernel
theorem dX10_boat_36 : decode cX10_boat 36 = .ok (.iconst 0, 1) := by decide +kernel
theorem dX10_boat_37 : decode cX10_boat 37 = .ok (.ireturn, 1) := by decide +kernel
theorem dX10_boat_38 : decode cX10_boat 38 = .ok (.aload_n 0, 1) := by decide +kernel
theorem dX10_boat_39 : decode cX10_boat 39 = .ok (.dup, 1) := by decide +kernel
theorem dX10_boat_40 : decode cX10_boat 40 = .ok (.getfield 102, 3) := by decide +kernel
theorem dX10_boat_43 : decode cX10_boat 43 = .ok (.iconst 1, 1) := by decide +kernel
theorem dX10_boat_44 : decode cX10_boat 44 = .ok (.iadd, 1) := by decide +kernel
theorem dX10_boat_45 : decode cX10_boat 45 = .ok (.putfield 102, 3) := by decide +kernel
theorem dX10_boat_48 : decode cX10_boat 48 = .ok (.aload_n 0, 1) := by decide +kernel
theorem dX10_boat_49 : decode cX10_boat 49 = .ok (.getfield 102, 3) := by decide +kernel
theorem dX10_boat_52 : decode cX10_boat 52 = .ok (.iconst 1, 1) := by decide +kernel
theorem dX10_boat_53 : decode cX10_boat 53 = .ok (.isub, 1) := by decide +kernel
theorem dX10_boat_54 : decode cX10_boat 54 = .ok (.ireturn, 1) := by decide +kernel
theorem dX10_race_0 : decode cX10_race 0 = .ok (.aload_n 0, 1) := by decide +kernel
theorem dX10_race_1 : decode cX10_race 1 = .ok (.iload_n 1, 1) := by decide +kernel
theorem dX10_race_2 : decode cX10_race 2 = .ok (.iconst 0, 1) := by decide +kernel
theorem dX10_race_3 : decode cX10_race 3 = .ok (.iconst 2, 1) := by decide +kernel
theorem dX10_race_4 : decode cX10_race 4 = .ok (.invokestatic 172, 3) := by decide +kernel
theorem dX10_race_7 : decode cX10_race 7 = .ok (.ifCond .eq 12, 3) := by decide +kernel
theorem dX10_race_10 : decode cX10_race 10 = .ok (.iload_n 2, 1) := by decide +kernel
theorem dX10_race_11 : decode cX10_race 11 = .ok (.iconst 0, 1) := by decide +kernel
theorem dX10_race_12 : decode cX10_race 12 = .ok (.iconst 3, 1) := by decide +kernel
theorem dX10_race_13 : decode cX10_race 13 = .ok (.invokestatic 172, 3) := by decide +kernel
theorem dX10_race_16 : decode cX10_race 16 = .ok (.ifCond .ne 7, 3) := by decide +kernel
theorem dX10_race_19 : decode cX10_race 19 = .ok (.iconst 1, 1) := by decide +kernel
theorem dX10_race_20 : decode cX10_race 20 = .ok (.goto 4, 3) := by decide +kernel
theorem dX10_race_23 : decode cX10_race 23 = .ok (.iconst 0, 1) := by decide +kernel
theorem dX10_race_24 : decode cX10_race 24 = .ok (.putfield 89, 3) := by decide +kernel
theorem dX10_race_27 : decode cX10_race 27 = .ok (.aload_n 0, 1) := by decide +kernel
theorem dX10_race_28 : decode cX10_race 28 = .ok (.getfield 89, 3) := by decide +kernel
theorem dX10_race_31 : decode cX10_race 31 = .ok (.ifCond .le 5, 3) := by decide +kernel
theorem dX10_race_34 : decode cX10_race 34 = .ok (.iconst 0, 1) := by decide +kernel
theorem dX10_race_35 : decode cX10_race 35 = .ok (.ireturn, 1) := by decide +kernel
theorem dX10_race_36 : decode cX10_race 36 = .ok (.aload_n 0, 1) := by decide +kernel
theorem dX10_race_37 : decode cX10_race 37 = .ok (.getfield 168, 3) := by decide +kernel
theorem dX10_race_40 : decode cX10_race 40 = .ok (.ifCond .eq 19, 3) := by decide +kernel
theorem dX10_race_43 : decode cX10_race 43 = .ok (.iload_n 1, 1) := by decide +kernel
theorem dX10_race_44 : decode cX10_race 44 = .ok (.ifCond .eq 7, 3) := by decide +kernel
theorem dX10_race_47 : decode cX10_race 47 = .ok (.iload_n 2, 1) := by decide +kernel
theorem dX10_race_48 : decode cX10_race 48 = .ok (.ifCond .ne 7, 3) := by decide +kernel
theorem dX10_race_51 : decode cX10_race 51 = .ok (.iconst 1, 1) := by decide +kernel
theorem dX10_race_52 : decode cX10_race 52 = .ok (.goto 21, 3) := by decide +kernel
theorem dX10_race_55 : decode cX10_race 55 = .ok (.iconst 0, 1) := by decide +kernel
theorem dX10_race_56 : decode cX10_race 56 = .ok (.goto 17, 3) := by decide +kernel
theorem dX10_race_59 : decode cX10_race 59 = .ok (.iload_n 1, 1) := by decide +kernel
theorem dX10_race_60 : decode cX10_race 60 = .ok (.iconst 1, 1) := by decide +kernel
theorem dX10_race_61 : decode cX10_race 61 = .ok (.if_icmp .eq 7, 3) := by decide +kernel
theorem dX10_race_64 : decode cX10_race 64 = .ok (.iload_n 2, 1) := by decide +kernel
theorem dX10_race_65 : decode cX10_race 65 = .ok (.ifCond .eq 7, 3) := by decide +kernel
theorem dX10_race_68 : decode cX10_race 68 = .ok (.iconst 1, 1) := by decide +kernel
theorem dX10_race_69 : decode cX10_race 69 = .ok (.goto 4, 3) := by decide +kernel
theorem dX10_race_72 : decode cX10_race 72 = .ok (.iconst 0, 1) := by decide +kernel
theorem dX10_race_73 : decode cX10_race 73 = .ok (.istore_n 3, 1) := by decide +kernel
theorem dX10_race_74 : decode cX10_race 74 = .ok (.aload_n 0, 1) := by decide +kernel
theorem dX10_race_75 : decode cX10_race 75 = .ok (.iload_n 3, 1) := by decide +kernel
theorem dX10_race_76 : decode cX10_race 76 = .ok (.ifCond .eq 7, 3) := by decide +kernel
theorem dX10_race_79 : decode cX10_race 79 = .ok (.iconst 2, 1) := by decide +kernel
theorem dX10_race_80 : decode cX10_race 80 = .ok (.goto 17, 3) := by decide +kernel
theorem dX10_race_83 : decode cX10_race 83 = .ok (.aload_n 0, 1) := by decide +kernel
theorem dX10_race_84 : decode cX10_race 84 = .ok (.getfield 99, 3) := by decide +kernel
theorem dX10_race_87 : decode cX10_race 87 = .ok (.bipush 16, 2) := by decide +kernel
theorem dX10_race_89 : decode cX10_race 89 = .ok (.if_icmp .ne 7, 3) := by decide +kernel
theorem dX10_race_92 : decode cX10_race 92 = .ok (.iconst 3, 1) := by decide +kernel
theorem dX10_race_93 : decode cX10_race 93 = .ok (.goto 4, 3) := by decide +kernel
theorem dX10_race_96 : decode cX10_race 96 = .ok (.iconst 0, 1) := by decide +kernel
theorem dX10_race_97 : decode cX10_race 97 = .ok (.putfield 89, 3) := by decide +kernel
theorem dX10_race_100 : decode cX10_race 100 = .ok (.aload_n 0, 1) := by decide +kernel
theorem dX10_race_101 : decode cX10_race 101 = .ok (.getfield 89, 3) := by decide +kernel
theorem dX10_race_104 : decode cX10_race 104 = .ok (.ifCond .le 5, 3) := by decide +kernel
theorem dX10_race_107 : decode cX10_race 107 = .ok (.iconst 0, 1) := by decide +kernel
theorem dX10_race_108 : decode cX10_race 108 = .ok (.ireturn, 1) := by decide +kernel
theorem dX10_race_109 : decode cX10_race 109 = .ok (.aload_n 0, 1) := by decide +kernel
theorem dX10_race_110 : decode cX10_race 110 = .ok (.getfield 16, 3) := by decide +kernel
theorem dX10_race_113 : decode cX10_race 113 = .ok (.aload_n 0, 1) := by decide +kernel
theorem dX10_race_114 : decode cX10_race 114 = .ok (.getfield 99, 3) := by decide +kernel
theorem dX10_race_117 : decode cX10_race 117 = .ok (.iload_n 1, 1) := by decide +kernel
theorem dX10_race_118 : decode cX10_race 118 = .ok (.iastore, 1) := by decide +kernel
theorem dX10_race_119 : decode cX10_race 119 = .ok (.aload_n 0, 1) := by decide +kernel
theorem dX10_race_120 : decode cX10_race 120 = .ok (.getfield 19, 3) := by decide +kernel
theorem dX10_race_123 : decode cX10_race 123 = .ok (.aload_n 0, 1) := by decide +kernel
theorem dX10_race_124 : decode cX10_race 124 = .ok (.getfield 99, 3) := by decide +kernel
theorem dX10_race_127 : decode cX10_race 127 = .ok (.iload_n 2, 1) := by decide +kernel
theorem dX10_race_128 : decode cX10_race 128 = .ok (.iastore, 1) := by decide +kernel
theorem dX10_race_129 : decode cX10_race 129 = .ok (.aload_n 0, 1) := by decide +kernel
theorem dX10_race_130 : decode cX10_race 130 = .ok (.dup, 1) := by decide +kernel
theorem dX10_race_131 : decode cX10_race 131 = .ok (.getfield 99, 3) := by decide +kernel
theorem dX10_race_134 : decode cX10_race 134 = .ok (.iconst 1, 1) := by decide +kernel
theorem dX10_race_135 : decode cX10_race 135 = .ok (.iadd, 1) := by decide +kernel
theorem dX10_race_136 : decode cX10_race 136 = .ok (.putfield 99, 3) := by decide +kernel
theorem dX10_race_139 : decode cX10_race 139 = .ok (.aload_n 0, 1) := by decide +kernel
theorem dX10_race_140 : decode cX10_race 140 = .ok (.getfield 99, 3) := by decide +kernel
theorem dX10_race_143 : decode cX10_race 143 = .ok (.iconst 1, 1) := by decide +kernel
theorem dX10_race_144 : decode cX10_race 144 = .ok (.isub, 1) := by decide +kernel
theorem dX10_race_145 : decode cX10_race 145 = .ok (.ireturn, 1) := by decide +kernel
theorem dX10_abandon_0 : decode cX10_abandon 0 = .ok (.aload_n 0, 1) := by decide +kernel
theorem dX10_abandon_1 : decode cX10_abandon 1 = .ok (.iload_n 1, 1) := by decide +kernel
theorem dX10_abandon_2 : decode cX10_abandon 2 = .ok (.iconst 0, 1) := by decide +kernel
theorem dX10_abandon_3 : decode cX10_abandon 3 = .ok (.aload_n 0, 1) := by decide +kernel
theorem dX10_abandon_4 : decode cX10_abandon 4 = .ok (.getfield 99, 3) := by decide +kernel
theorem dX10_abandon_7 : decode cX10_abandon 7 = .ok (.iconst 1, 1) := by decide +kernel
theorem dX10_abandon_8 : decode cX10_abandon 8 = .ok (.isub, 1) := by decide +kernel
theorem dX10_abandon_9 : decode cX10_abandon 9 = .ok (.invokestatic 172, 3) := by decide +kernel
theorem dX10_abandon_12 : decode cX10_abandon 12 = .ok (.ifCond .eq 7, 3) := by decide +kernel
theorem dX10_abandon_15 : decode cX10_abandon 15 = .ok (.iconst 0, 1) := by decide +kernel
theorem dX10_abandon_16 : decode cX10_abandon 16 = .ok (.goto 4, 3) := by decide +kernel
theorem dX10_abandon_19 : decode cX10_abandon 19 = .ok (.iconst 1, 1) := by decide +kernel
theorem dX10_abandon_20 : decode cX10_abandon 20 = .ok (.putfield 89, 3) := by decide +kernel
theorem dX10_abandon_23 : decode cX10_abandon 23 = .ok (.aload_n 0, 1) := by decide +kernel
theorem dX10_abandon_24 : decode cX10_abandon 24 = .ok (.getfield 89, 3) := by decide +kernel
theorem dX10_abandon_27 : decode cX10_abandon 27 = .ok (.ifCond .le 5, 3) := by decide +kernel
theorem dX10_abandon_30 : decode cX10_abandon 30 = .ok (.iconst 0, 1) := by decide +kernel
theorem dX10_abandon_31 : decode cX10_abandon 31 = .ok (.ireturn, 1) := by decide +kernel
theorem dX10_abandon_32 : decode cX10_abandon 32 = .ok (.aload_n 0, 1) := by decide +kernel
theorem dX10_abandon_33 : decode cX10_abandon 33 = .ok (.getfield 22, 3) := by decide +kernel
theorem dX10_abandon_36 : decode cX10_abandon 36 = .ok (.iload_n 1, 1) := by decide +kernel
theorem dX10_abandon_37 : decode cX10_abandon 37 = .ok (.baload, 1) := by decide +kernel
theorem dX10_abandon_38 : decode cX10_abandon 38 = .ok (.istore_n 3, 1) := by decide +kernel
theorem dX10_abandon_39 : decode cX10_abandon 39 = .ok (.aload_n 0, 1) := by decide +kernel
theorem dX10_abandon_40 : decode cX10_abandon 40 = .ok (.getfield 22, 3) := by decide +kernel
theorem dX10_abandon_43 : decode cX10_abandon 43 = .ok (.iload_n 1, 1) := by decide +kernel
theorem dX10_abandon_44 : decode cX10_abandon 44 = .ok (.iload_n 2, 1) := by decide +kernel
theorem dX10_abandon_45 : decode cX10_abandon 45 = .ok (.bastore, 1) := by decide +kernel
theorem dX10_abandon_46 : decode cX10_abandon 46 = .ok (.iload_n 3, 1) := by decide +kernel
theorem dX10_abandon_47 : decode cX10_abandon 47 = .ok (.ireturn, 1) := by decide +kernel
theorem dX10_isThere_0 : decode cX10_isThere 0 = .ok (.iload_n 1, 1) := by decide +kernel
theorem dX10_isThere_1 : decode cX10_isThere 1 = .ok (.iconst 0, 1) := by decide +kernel
theorem dX10_isThere_2 : decode cX10_isThere 2 = .ok (.aload_n 0, 1) := by decide +kernel
theorem dX10_isThere_3 : decode cX10_isThere 3 = .ok (.getfield 99, 3) := by decide +kernel
theorem dX10_isThere_6 : decode cX10_isThere 6 = .ok (.iconst 1, 1) := by decide +kernel
theorem dX10_isThere_7 : decode cX10_isThere 7 = .ok (.isub, 1) := by decide +kernel
theorem dX10_isThere_8 : decode cX10_isThere 8 = .ok (.invokestatic 172, 3) := by decide +kernel
theorem dX10_isThere_11 : decode cX10_isThere 11 = .ok (.ifCond .eq 21, 3) := by decide +kernel
theorem dX10_isThere_14 : decode cX10_isThere 14 = .ok (.iload_n 2, 1) := by decide +kernel
theorem dX10_isThere_15 : decode cX10_isThere 15 = .ok (.iconst 0, 1) := by decide +kernel
theorem dX10_isThere_16 : decode cX10_isThere 16 = .ok (.aload_n 0, 1) := by decide +kernel
theorem dX10_isThere_17 : decode cX10_isThere 17 = .ok (.getfield 102, 3) := by decide +kernel
theorem dX10_isThere_20 : decode cX10_isThere 20 = .ok (.iconst 1, 1) := by decide +kernel
theorem dX10_isThere_21 : decode cX10_isThere 21 = .ok (.isub, 1) := by decide +kernel
theorem dX10_isThere_22 : decode cX10_isThere 22 = .ok (.invokestatic 172, 3) := by decide +kernel
theorem dX10_isThere_25 : decode cX10_isThere 25 = .ok (.ifCond .eq 7, 3) := by decide +kernel
theorem dX10_isThere_28 : decode cX10_isThere 28 = .ok (.iconst 1, 1) := by decide +kernel
theorem dX10_isThere_29 : decode cX10_isThere 29 = .ok (.goto 4, 3) := by decide +kernel
theorem dX10_isThere_32 : decode cX10_isThere 32 = .ok (.iconst 0, 1) := by decide +kernel
theorem dX10_isThere_33 : decode cX10_isThere 33 = .ok (.ireturn, 1) := by decide +kernel
theorem dX10_wrong_0 : decode cX10_wrong 0 = .ok (.aload_n 0, 1) := by decide +kernel
theorem dX10_wrong_1 : decode cX10_wrong 1 = .ok (.iload_n 1, 1) := by decide +kernel
theorem dX10_wrong_2 : decode cX10_wrong 2 = .ok (.iload_n 2, 1) := by decide +kernel
theorem dX10_wrong_3 : decode cX10_wrong 3 = .ok (.invokevirtual 176, 3) := by decide +kernel
theorem dX10_wrong_6 : decode cX10_wrong 6 = .ok (.ifCond .ne 5, 3) := by decide +kernel
theorem dX10_wrong_9 : decode cX10_wrong 9 = .ok (.iconst 1, 1) := by decide +kernel
theorem dX10_wrong_10 : decode cX10_wrong 10 = .ok (.ireturn, 1) := by decide +kernel
theorem dX10_wrong_11 : decode cX10_wrong 11 = .ok (.aload_n 0, 1) := by decide +kernel
theorem dX10_wrong_12 : decode cX10_wrong 12 = .ok (.iload_n 1, 1) := by decide +kernel
theorem dX10_wrong_13 : decode cX10_wrong 13 = .ok (.iload_n 2, 1) := by decide +kernel
theorem dX10_wrong_14 : decode cX10_wrong 14 = .ok (.invokevirtual 109, 3) := by decide +kernel
theorem dX10_wrong_17 : decode cX10_wrong 17 = .ok (.ifCond .ne 5, 3) := by decide +kernel
theorem dX10_wrong_20 : decode cX10_wrong 20 = .ok (.iconst 2, 1) := by decide +kernel
theorem dX10_wrong_21 : decode cX10_wrong 21 = .ok (.ireturn, 1) := by decide +kernel
theorem dX10_wrong_22 : decode cX10_wrong 22 = .ok (.iload_n 3, 1) := by decide +kernel
theorem dX10_wrong_23 : decode cX10_wrong 23 = .ok (.ifCond .ne 14, 3) := by decide +kernel
theorem dX10_wrong_26 : decode cX10_wrong 26 = .ok (.iload 4, 2) := by decide +kernel
theorem dX10_wrong_28 : decode cX10_wrong 28 = .ok (.iconst 1, 1) := by decide +kernel
theorem dX10_wrong_29 : decode cX10_wrong 29 = .ok (.bipush 99, 2) := by decide +kernel
theorem dX10_wrong_31 : decode cX10_wrong 31 = .ok (.invokestatic 172, 3) := by decide +kernel
theorem dX10_wrong_34 : decode cX10_wrong 34 = .ok (.goto 41, 3) := by decide +kernel
theorem dX10_wrong_37 : decode cX10_wrong 37 = .ok (.iload_n 3, 1) := by decide +kernel
theorem dX10_wrong_38 : decode cX10_wrong 38 = .ok (.bipush 8, 2) := by decide +kernel
theorem dX10_wrong_40 : decode cX10_wrong 40 = .ok (.if_icmp .ne 15, 3) := by decide +kernel
theorem dX10_wrong_43 : decode cX10_wrong 43 = .ok (.iload 4, 2) := by decide +kernel
theorem dX10_wrong_45 : decode cX10_wrong 45 = .ok (.iconst 0, 1) := by decide +kernel
theorem dX10_wrong_46 : decode cX10_wrong 46 = .ok (.sipush 9999, 3) := by decide +kernel
theorem dX10_wrong_49 : decode cX10_wrong 49 = .ok (.invokestatic 172, 3) := by decide +kernel
theorem dX10_wrong_52 : decode cX10_wrong 52 = .ok (.goto 23, 3) := by decide +kernel
theorem dX10_wrong_55 : decode cX10_wrong 55 = .ok (.iload_n 3, 1) := by decide +kernel
theorem dX10_wrong_56 : decode cX10_wrong 56 = .ok (.iconst 1, 1) := by decide +kernel
theorem dX10_wrong_57 : decode cX10_wrong 57 = .ok (.bipush 7, 2) := by decide +kernel
theorem dX10_wrong_59 : decode cX10_wrong 59 = .ok (.invokestatic 172, 3) := by decide +kernel
theorem dX10_wrong_62 : decode cX10_wrong 62 = .ok (.ifCond .eq 12, 3) := by decide +kernel
theorem dX10_wrong_65 : decode cX10_wrong 65 = .ok (.iload 4, 2) := by decide +kernel
theorem dX10_wrong_67 : decode cX10_wrong 67 = .ok (.ifCond .ne 7, 3) := by decide +kernel
theorem dX10_wrong_70 : decode cX10_wrong 70 = .ok (.iconst 1, 1) := by decide +kernel
theorem dX10_wrong_71 : decode cX10_wrong 71 = .ok (.goto 4, 3) := by decide +kernel
theorem dX10_wrong_74 : decode cX10_wrong 74 = .ok (.iconst 0, 1) := by decide +kernel
theorem dX10_wrong_75 : decode cX10_wrong 75 = .ok (.istore 5, 2) := by decide +kernel
theorem dX10_wrong_77 : decode cX10_wrong 77 = .ok (.iload 5, 2) := by decide +kernel
theorem dX10_wrong_79 : decode cX10_wrong 79 = .ok (.ifCond .eq 7, 3) := by decide +kernel
theorem dX10_wrong_82 : decode cX10_wrong 82 = .ok (.iconst 0, 1) := by decide +kernel
theorem dX10_wrong_83 : decode cX10_wrong 83 = .ok (.goto 4, 3) := by decide +kernel
theorem dX10_wrong_86 : decode cX10_wrong 86 = .ok (.iconst 3, 1) := by decide +kernel
theorem dX10_wrong_87 : decode cX10_wrong 87 = .ok (.ireturn, 1) := by decide +kernel
theorem dX10_enter_0 : decode cX10_enter 0 = .ok (.bipush 40, 2) := by decide +kernel
theorem dX10_enter_2 : decode cX10_enter 2 = .ok (.iload_n 1, 1) := by decide +kernel
theorem dX10_enter_3 : decode cX10_enter 3 = .ok (.imul, 1) := by decide +kernel
theorem dX10_enter_4 : decode cX10_enter 4 = .ok (.iload_n 2, 1) := by decide +kernel
theorem dX10_enter_5 : decode cX10_enter 5 = .ok (.iadd, 1) := by decide +kernel
theorem dX10_enter_6 : decode cX10_enter 6 = .ok (.istore 5, 2) := by decide +kernel
theorem dX10_enter_8 : decode cX10_enter 8 = .ok (.aload_n 0, 1) := by decide +kernel
theorem dX10_enter_9 : decode cX10_enter 9 = .ok (.getfield 26, 3) := by decide +kernel
theorem dX10_enter_12 : decode cX10_enter 12 = .ok (.iload 5, 2) := by decide +kernel
theorem dX10_enter_14 : decode cX10_enter 14 = .ok (.iload_n 3, 1) := by decide +kernel
theorem dX10_enter_15 : decode cX10_enter 15 = .ok (.iastore, 1) := by decide +kernel
theorem dX10_enter_16 : decode cX10_enter 16 = .ok (.aload_n 0, 1) := by decide +kernel
theorem dX10_enter_17 : decode cX10_enter 17 = .ok (.getfield 29, 3) := by decide +kernel
theorem dX10_enter_20 : decode cX10_enter 20 = .ok (.iload 5, 2) := by decide +kernel
theorem dX10_enter_22 : decode cX10_enter 22 = .ok (.iload 4, 2) := by decide +kernel
theorem dX10_enter_24 : decode cX10_enter 24 = .ok (.iastore, 1) := by decide +kernel
theorem dX10_enter_25 : decode cX10_enter 25 = .ok (.aload_n 0, 1) := by decide +kernel
theorem dX10_enter_26 : decode cX10_enter 26 = .ok (.getfield 32, 3) := by decide +kernel
theorem dX10_enter_29 : decode cX10_enter 29 = .ok (.iload 5, 2) := by decide +kernel
theorem dX10_enter_31 : decode cX10_enter 31 = .ok (.iconst 0, 1) := by decide +kernel
theorem dX10_enter_32 : decode cX10_enter 32 = .ok (.iastore, 1) := by decide +kernel
theorem dX10_enter_33 : decode cX10_enter 33 = .ok (.return_, 1) := by decide +kernel
theorem dX10_finish_0 : decode cX10_finish 0 = .ok (.aload_n 0, 1) := by decide +kernel
theorem dX10_finish_1 : decode cX10_finish 1 = .ok (.aload_n 0, 1) := by decide +kernel
theorem dX10_finish_2 : decode cX10_finish 2 = .ok (.iload_n 1, 1) := by decide +kernel
theorem dX10_finish_3 : decode cX10_finish 3 = .ok (.iload_n 2, 1) := by decide +kernel
theorem dX10_finish_4 : decode cX10_finish 4 = .ok (.iconst 0, 1) := by decide +kernel
theorem dX10_finish_5 : decode cX10_finish 5 = .ok (.iload_n 3, 1) := by decide +kernel
theorem dX10_finish_6 : decode cX10_finish 6 = .ok (.invokevirtual 179, 3) := by decide +kernel
theorem dX10_finish_9 : decode cX10_finish 9 = .ok (.putfield 89, 3) := by decide +kernel
theorem dX10_finish_12 : decode cX10_finish 12 = .ok (.aload_n 0, 1) := by decide +kernel
theorem dX10_finish_13 : decode cX10_finish 13 = .ok (.getfield 89, 3) := by decide +kernel
theorem dX10_finish_16 : decode cX10_finish 16 = .ok (.ifCond .ne 12, 3) := by decide +kernel
theorem dX10_finish_19 : decode cX10_finish 19 = .ok (.aload_n 0, 1) := by decide +kernel
theorem dX10_finish_20 : decode cX10_finish 20 = .ok (.iload_n 1, 1) := by decide +kernel
theorem dX10_finish_21 : decode cX10_finish 21 = .ok (.iload_n 2, 1) := by decide +kernel
theorem dX10_finish_22 : decode cX10_finish 22 = .ok (.bipush 9, 2) := by decide +kernel
theorem dX10_finish_24 : decode cX10_finish 24 = .ok (.iload_n 3, 1) := by decide +kernel
theorem dX10_finish_25 : decode cX10_finish 25 = .ok (.invokevirtual 183, 3) := by decide +kernel
theorem dX10_finish_28 : decode cX10_finish 28 = .ok (.return_, 1) := by decide +kernel
theorem dX10_code_0 : decode cX10_code 0 = .ok (.aload_n 0, 1) := by decide +kernel
theorem dX10_code_1 : decode cX10_code 1 = .ok (.aload_n 0, 1) := by decide +kernel
theorem dX10_code_2 : decode cX10_code 2 = .ok (.iload_n 1, 1) := by decide +kernel
theorem dX10_code_3 : decode cX10_code 3 = .ok (.iload_n 2, 1) := by decide +kernel
theorem dX10_code_4 : decode cX10_code 4 = .ok (.iload_n 3, 1) := by decide +kernel
theorem dX10_code_5 : decode cX10_code 5 = .ok (.ifCond .ne 8, 3) := by decide +kernel
theorem dX10_code_8 : decode cX10_code 8 = .ok (.bipush 99, 2) := by decide +kernel
theorem dX10_code_10 : decode cX10_code 10 = .ok (.goto 4, 3) := by decide +kernel
theorem dX10_code_13 : decode cX10_code 13 = .ok (.iload_n 3, 1) := by decide +kernel
theorem dX10_code_14 : decode cX10_code 14 = .ok (.iload 4, 2) := by decide +kernel
theorem dX10_code_16 : decode cX10_code 16 = .ok (.invokevirtual 179, 3) := by decide +kernel
theorem dX10_code_19 : decode cX10_code 19 = .ok (.putfield 89, 3) := by decide +kernel
theorem dX10_code_22 : decode cX10_code 22 = .ok (.aload_n 0, 1) := by decide +kernel
theorem dX10_code_23 : decode cX10_code 23 = .ok (.getfield 89, 3) := by decide +kernel
theorem dX10_code_26 : decode cX10_code 26 = .ok (.ifCond .ne 12, 3) := by decide +kernel
theorem dX10_code_29 : decode cX10_code 29 = .ok (.aload_n 0, 1) := by decide +kernel
theorem dX10_code_30 : decode cX10_code 30 = .ok (.iload_n 1, 1) := by decide +kernel
theorem dX10_code_31 : decode cX10_code 31 = .ok (.iload_n 2, 1) := by decide +kernel
theorem dX10_code_32 : decode cX10_code 32 = .ok (.iload_n 3, 1) := by decide +kernel
theorem dX10_code_33 : decode cX10_code 33 = .ok (.iload 4, 2) := by decide +kernel
theorem dX10_code_35 : decode cX10_code 35 = .ok (.invokevirtual 183, 3) := by decide +kernel
theorem dX10_code_38 : decode cX10_code 38 = .ok (.return_, 1) := by decide +kernel
theorem dX10_penalty_0 : decode cX10_penalty 0 = .ok (.aload_n 0, 1) := by decide +kernel
theorem dX10_penalty_1 : decode cX10_penalty 1 = .ok (.aload_n 0, 1) := by decide +kernel
theorem dX10_penalty_2 : decode cX10_penalty 2 = .ok (.iload_n 1, 1) := by decide +kernel
theorem dX10_penalty_3 : decode cX10_penalty 3 = .ok (.iload_n 2, 1) := by decide +kernel
theorem dX10_penalty_4 : decode cX10_penalty 4 = .ok (.invokevirtual 176, 3) := by decide +kernel
theorem dX10_penalty_7 : decode cX10_penalty 7 = .ok (.ifCond .ne 7, 3) := by decide +kernel
theorem dX10_penalty_10 : decode cX10_penalty 10 = .ok (.iconst 1, 1) := by decide +kernel
theorem dX10_penalty_11 : decode cX10_penalty 11 = .ok (.goto 38, 3) := by decide +kernel
theorem dX10_penalty_14 : decode cX10_penalty 14 = .ok (.aload_n 0, 1) := by decide +kernel
theorem dX10_penalty_15 : decode cX10_penalty 15 = .ok (.getfield 26, 3) := by decide +kernel
theorem dX10_penalty_18 : decode cX10_penalty 18 = .ok (.bipush 40, 2) := by decide +kernel
theorem dX10_penalty_20 : decode cX10_penalty 20 = .ok (.iload_n 1, 1) := by decide +kernel
theorem dX10_penalty_21 : decode cX10_penalty 21 = .ok (.imul, 1) := by decide +kernel
theorem dX10_penalty_22 : decode cX10_penalty 22 = .ok (.iload_n 2, 1) := by decide +kernel
theorem dX10_penalty_23 : decode cX10_penalty 23 = .ok (.iadd, 1) := by decide +kernel
theorem dX10_penalty_24 : decode cX10_penalty 24 = .ok (.iaload, 1) := by decide +kernel
theorem dX10_penalty_25 : decode cX10_penalty 25 = .ok (.bipush 9, 2) := by decide +kernel
theorem dX10_penalty_27 : decode cX10_penalty 27 = .ok (.if_icmp .eq 7, 3) := by decide +kernel
theorem dX10_penalty_30 : decode cX10_penalty 30 = .ok (.iconst 2, 1) := by decide +kernel
theorem dX10_penalty_31 : decode cX10_penalty 31 = .ok (.goto 18, 3) := by decide +kernel
theorem dX10_penalty_34 : decode cX10_penalty 34 = .ok (.iload_n 3, 1) := by decide +kernel
theorem dX10_penalty_35 : decode cX10_penalty 35 = .ok (.iconst 0, 1) := by decide +kernel
theorem dX10_penalty_36 : decode cX10_penalty 36 = .ok (.bipush 100, 2) := by decide +kernel
theorem dX10_penalty_38 : decode cX10_penalty 38 = .ok (.invokestatic 172, 3) := by decide +kernel
theorem dX10_penalty_41 : decode cX10_penalty 41 = .ok (.ifCond .eq 7, 3) := by decide +kernel
theorem dX10_penalty_44 : decode cX10_penalty 44 = .ok (.iconst 0, 1) := by decide +kernel
theorem dX10_penalty_45 : decode cX10_penalty 45 = .ok (.goto 4, 3) := by decide +kernel
theorem dX10_penalty_48 : decode cX10_penalty 48 = .ok (.iconst 3, 1) := by decide +kernel
theorem dX10_penalty_49 : decode cX10_penalty 49 = .ok (.putfield 89, 3) := by decide +kernel
theorem dX10_penalty_52 : decode cX10_penalty 52 = .ok (.aload_n 0, 1) := by decide +kernel
theorem dX10_penalty_53 : decode cX10_penalty 53 = .ok (.getfield 89, 3) := by decide +kernel
theorem dX10_penalty_56 : decode cX10_penalty 56 = .ok (.ifCond .ne 15, 3) := by decide +kernel
theorem dX10_penalty_59 : decode cX10_penalty 59 = .ok (.aload_n 0, 1) := by decide +kernel
theorem dX10_penalty_60 : decode cX10_penalty 60 = .ok (.getfield 32, 3) := by decide +kernel
theorem dX10_penalty_63 : decode cX10_penalty 63 = .ok (.bipush 40, 2) := by decide +kernel
theorem dX10_penalty_65 : decode cX10_penalty 65 = .ok (.iload_n 1, 1) := by decide +kernel
theorem dX10_penalty_66 : decode cX10_penalty 66 = .ok (.imul, 1) := by decide +kernel
theorem dX10_penalty_67 : decode cX10_penalty 67 = .ok (.iload_n 2, 1) := by decide +kernel
theorem dX10_penalty_68 : decode cX10_penalty 68 = .ok (.iadd, 1) := by decide +kernel
theorem dX10_penalty_69 : decode cX10_penalty 69 = .ok (.iload_n 3, 1) := by decide +kernel
theorem dX10_penalty_70 : decode cX10_penalty 70 = .ok (.iastore, 1) := by decide +kernel
theorem dX10_penalty_71 : decode cX10_penalty 71 = .ok (.return_, 1) := by decide +kernel
theorem dX10_clear_0 : decode cX10_clear 0 = .ok (.aload_n 0, 1) := by decide +kernel
theorem dX10_clear_1 : decode cX10_clear 1 = .ok (.aload_n 0, 1) := by decide +kernel
theorem dX10_clear_2 : decode cX10_clear 2 = .ok (.iload_n 1, 1) := by decide +kernel
theorem dX10_clear_3 : decode cX10_clear 3 = .ok (.iload_n 2, 1) := by decide +kernel
theorem dX10_clear_4 : decode cX10_clear 4 = .ok (.invokevirtual 176, 3) := by decide +kernel
theorem dX10_clear_7 : decode cX10_clear 7 = .ok (.ifCond .eq 7, 3) := by decide +kernel
theorem dX10_clear_10 : decode cX10_clear 10 = .ok (.iconst 0, 1) := by decide +kernel
theorem dX10_clear_11 : decode cX10_clear 11 = .ok (.goto 4, 3) := by decide +kernel
theorem dX10_clear_14 : decode cX10_clear 14 = .ok (.iconst 1, 1) := by decide +kernel
theorem dX10_clear_15 : decode cX10_clear 15 = .ok (.putfield 89, 3) := by decide +kernel
theorem dX10_clear_18 : decode cX10_clear 18 = .ok (.aload_n 0, 1) := by decide +kernel
theorem dX10_clear_19 : decode cX10_clear 19 = .ok (.getfield 89, 3) := by decide +kernel
theorem dX10_clear_22 : decode cX10_clear 22 = .ok (.ifCond .le 5, 3) := by decide +kernel
theorem dX10_clear_25 : decode cX10_clear 25 = .ok (.iconst 0, 1) := by decide +kernel
theorem dX10_clear_26 : decode cX10_clear 26 = .ok (.ireturn, 1) := by decide +kernel
theorem dX10_clear_27 : decode cX10_clear 27 = .ok (.aload_n 0, 1) := by decide +kernel
theorem dX10_clear_28 : decode cX10_clear 28 = .ok (.getfield 26, 3) := by decide +kernel
theorem dX10_clear_31 : decode cX10_clear 31 = .ok (.bipush 40, 2) := by decide +kernel
theorem dX10_clear_33 : decode cX10_clear 33 = .ok (.iload_n 1, 1) := by decide +kernel
theorem dX10_clear_34 : decode cX10_clear 34 = .ok (.imul, 1) := by decide +kernel
theorem dX10_clear_35 : decode cX10_clear 35 = .ok (.iload_n 2, 1) := by decide +kernel
theorem dX10_clear_36 : decode cX10_clear 36 = .ok (.iadd, 1) := by decide +kernel
theorem dX10_clear_37 : decode cX10_clear 37 = .ok (.iaload, 1) := by decide +kernel
theorem dX10_clear_38 : decode cX10_clear 38 = .ok (.ifCond .eq 7, 3) := by decide +kernel
theorem dX10_clear_41 : decode cX10_clear 41 = .ok (.iconst 1, 1) := by decide +kernel
theorem dX10_clear_42 : decode cX10_clear 42 = .ok (.goto 4, 3) := by decide +kernel
theorem dX10_clear_45 : decode cX10_clear 45 = .ok (.iconst 0, 1) := by decide +kernel
theorem dX10_clear_46 : decode cX10_clear 46 = .ok (.istore_n 3, 1) := by decide +kernel
theorem dX10_clear_47 : decode cX10_clear 47 = .ok (.aload_n 0, 1) := by decide +kernel
theorem dX10_clear_48 : decode cX10_clear 48 = .ok (.iload_n 1, 1) := by decide +kernel
theorem dX10_clear_49 : decode cX10_clear 49 = .ok (.iload_n 2, 1) := by decide +kernel
theorem dX10_clear_50 : decode cX10_clear 50 = .ok (.iconst 0, 1) := by decide +kernel
theorem dX10_clear_51 : decode cX10_clear 51 = .ok (.iconst 0, 1) := by decide +kernel
theorem dX10_clear_52 : decode cX10_clear 52 = .ok (.invokevirtual 183, 3) := by decide +kernel
theorem dX10_clear_55 : decode cX10_clear 55 = .ok (.iload_n 3, 1) := by decide +kernel
theorem dX10_clear_56 : decode cX10_clear 56 = .ok (.ireturn, 1) := by decide +kernel
theorem dX10_decide_0 : decode cX10_decide 0 = .ok (.aload_n 0, 1) := by decide +kernel
theorem dX10_decide_1 : decode cX10_decide 1 = .ok (.getfield 35, 3) := by decide +kernel
theorem dX10_decide_4 : decode cX10_decide 4 = .ok (.iload_n 1, 1) := by decide +kernel
theorem dX10_decide_5 : decode cX10_decide 5 = .ok (.iload_n 2, 1) := by decide +kernel
theorem dX10_decide_6 : decode cX10_decide 6 = .ok (.iastore, 1) := by decide +kernel
theorem dX10_decide_7 : decode cX10_decide 7 = .ok (.aload_n 0, 1) := by decide +kernel
theorem dX10_decide_8 : decode cX10_decide 8 = .ok (.getfield 38, 3) := by decide +kernel
theorem dX10_decide_11 : decode cX10_decide 11 = .ok (.iload_n 1, 1) := by decide +kernel
theorem dX10_decide_12 : decode cX10_decide 12 = .ok (.iload_n 3, 1) := by decide +kernel
theorem dX10_decide_13 : decode cX10_decide 13 = .ok (.iastore, 1) := by decide +kernel
theorem dX10_decide_14 : decode cX10_decide 14 = .ok (.aload_n 0, 1) := by decide +kernel
theorem dX10_decide_15 : decode cX10_decide 15 = .ok (.getfield 41, 3) := by decide +kernel
theorem dX10_decide_18 : decode cX10_decide 18 = .ok (.iload_n 1, 1) := by decide +kernel
theorem dX10_decide_19 : decode cX10_decide 19 = .ok (.iload 4, 2) := by decide +kernel
theorem dX10_decide_21 : decode cX10_decide 21 = .ok (.iastore, 1) := by decide +kernel
theorem dX10_decide_22 : decode cX10_decide 22 = .ok (.aload_n 0, 1) := by decide +kernel
theorem dX10_decide_23 : decode cX10_decide 23 = .ok (.getfield 44, 3) := by decide +kernel
theorem dX10_decide_26 : decode cX10_decide 26 = .ok (.iload_n 1, 1) := by decide +kernel
theorem dX10_decide_27 : decode cX10_decide 27 = .ok (.iconst 0, 1) := by decide +kernel
theorem dX10_decide_28 : decode cX10_decide 28 = .ok (.bastore, 1) := by decide +kernel
theorem dX10_decide_29 : decode cX10_decide 29 = .ok (.return_, 1) := by decide +kernel
theorem dX10_protest_0 : decode cX10_protest 0 = .ok (.aload_n 0, 1) := by decide +kernel
theorem dX10_protest_1 : decode cX10_protest 1 = .ok (.aload_n 0, 1) := by decide +kernel
theorem dX10_protest_2 : decode cX10_protest 2 = .ok (.iload_n 1, 1) := by decide +kernel
theorem dX10_protest_3 : decode cX10_protest 3 = .ok (.iload_n 2, 1) := by decide +kernel
theorem dX10_protest_4 : decode cX10_protest 4 = .ok (.iload_n 3, 1) := by decide +kernel
theorem dX10_protest_5 : decode cX10_protest 5 = .ok (.iload 4, 2) := by decide +kernel
theorem dX10_protest_7 : decode cX10_protest 7 = .ok (.invokevirtual 179, 3) := by decide +kernel
theorem dX10_protest_10 : decode cX10_protest 10 = .ok (.putfield 89, 3) := by decide +kernel
theorem dX10_protest_13 : decode cX10_protest 13 = .ok (.aload_n 0, 1) := by decide +kernel
theorem dX10_protest_14 : decode cX10_protest 14 = .ok (.aload_n 0, 1) := by decide +kernel
theorem dX10_protest_15 : decode cX10_protest 15 = .ok (.getfield 89, 3) := by decide +kernel
theorem dX10_protest_18 : decode cX10_protest 18 = .ok (.ifCond .ne 16, 3) := by decide +kernel
theorem dX10_protest_21 : decode cX10_protest 21 = .ok (.aload_n 0, 1) := by decide +kernel
theorem dX10_protest_22 : decode cX10_protest 22 = .ok (.getfield 93, 3) := by decide +kernel
theorem dX10_protest_25 : decode cX10_protest 25 = .ok (.bipush 40, 2) := by decide +kernel
theorem dX10_protest_27 : decode cX10_protest 27 = .ok (.if_icmp .ne 7, 3) := by decide +kernel
theorem dX10_protest_30 : decode cX10_protest 30 = .ok (.iconst 4, 1) := by decide +kernel
theorem dX10_protest_31 : decode cX10_protest 31 = .ok (.goto 7, 3) := by decide +kernel
theorem dX10_protest_34 : decode cX10_protest 34 = .ok (.aload_n 0, 1) := by decide +kernel
theorem dX10_protest_35 : decode cX10_protest 35 = .ok (.getfield 89, 3) := by decide +kernel
theorem dX10_protest_38 : decode cX10_protest 38 = .ok (.putfield 89, 3) := by decide +kernel
theorem dX10_protest_41 : decode cX10_protest 41 = .ok (.aload_n 0, 1) := by decide +kernel
theorem dX10_protest_42 : decode cX10_protest 42 = .ok (.getfield 89, 3) := by decide +kernel
theorem dX10_protest_45 : decode cX10_protest 45 = .ok (.ifCond .le 5, 3) := by decide +kernel
theorem dX10_protest_48 : decode cX10_protest 48 = .ok (.iconst 0, 1) := by decide +kernel
theorem dX10_protest_49 : decode cX10_protest 49 = .ok (.ireturn, 1) := by decide +kernel
theorem dX10_protest_50 : decode cX10_protest 50 = .ok (.aload_n 0, 1) := by decide +kernel
theorem dX10_protest_51 : decode cX10_protest 51 = .ok (.aload_n 0, 1) := by decide +kernel
theorem dX10_protest_52 : decode cX10_protest 52 = .ok (.getfield 93, 3) := by decide +kernel
theorem dX10_protest_55 : decode cX10_protest 55 = .ok (.bipush 40, 2) := by decide +kernel
theorem dX10_protest_57 : decode cX10_protest 57 = .ok (.iload_n 1, 1) := by decide +kernel
theorem dX10_protest_58 : decode cX10_protest 58 = .ok (.imul, 1) := by decide +kernel
theorem dX10_protest_59 : decode cX10_protest 59 = .ok (.iload_n 2, 1) := by decide +kernel
theorem dX10_protest_60 : decode cX10_protest 60 = .ok (.iadd, 1) := by decide +kernel
theorem dX10_protest_61 : decode cX10_protest 61 = .ok (.iload_n 3, 1) := by decide +kernel
theorem dX10_protest_62 : decode cX10_protest 62 = .ok (.iload 4, 2) := by decide +kernel
theorem dX10_protest_64 : decode cX10_protest 64 = .ok (.invokevirtual 187, 3) := by decide +kernel
theorem dX10_protest_67 : decode cX10_protest 67 = .ok (.aload_n 0, 1) := by decide +kernel
theorem dX10_protest_68 : decode cX10_protest 68 = .ok (.dup, 1) := by decide +kernel
theorem dX10_protest_69 : decode cX10_protest 69 = .ok (.getfield 93, 3) := by decide +kernel
theorem dX10_protest_72 : decode cX10_protest 72 = .ok (.iconst 1, 1) := by decide +kernel
theorem dX10_protest_73 : decode cX10_protest 73 = .ok (.iadd, 1) := by decide +kernel
theorem dX10_protest_74 : decode cX10_protest 74 = .ok (.putfield 93, 3) := by decide +kernel
theorem dX10_protest_77 : decode cX10_protest 77 = .ok (.aload_n 0, 1) := by decide +kernel
theorem dX10_protest_78 : decode cX10_protest 78 = .ok (.getfield 93, 3) := by decide +kernel
theorem dX10_protest_81 : decode cX10_protest 81 = .ok (.iconst 1, 1) := by decide +kernel
theorem dX10_protest_82 : decode cX10_protest 82 = .ok (.isub, 1) := by decide +kernel
theorem dX10_protest_83 : decode cX10_protest 83 = .ok (.ireturn, 1) := by decide +kernel
theorem dX10_reopen_0 : decode cX10_reopen 0 = .ok (.aload_n 0, 1) := by decide +kernel
theorem dX10_reopen_1 : decode cX10_reopen 1 = .ok (.iload_n 1, 1) := by decide +kernel
theorem dX10_reopen_2 : decode cX10_reopen 2 = .ok (.iconst 0, 1) := by decide +kernel
theorem dX10_reopen_3 : decode cX10_reopen 3 = .ok (.aload_n 0, 1) := by decide +kernel
theorem dX10_reopen_4 : decode cX10_reopen 4 = .ok (.getfield 93, 3) := by decide +kernel
theorem dX10_reopen_7 : decode cX10_reopen 7 = .ok (.iconst 1, 1) := by decide +kernel
theorem dX10_reopen_8 : decode cX10_reopen 8 = .ok (.isub, 1) := by decide +kernel
theorem dX10_reopen_9 : decode cX10_reopen 9 = .ok (.invokestatic 172, 3) := by decide +kernel
theorem dX10_reopen_12 : decode cX10_reopen 12 = .ok (.ifCond .ne 7, 3) := by decide +kernel
theorem dX10_reopen_15 : decode cX10_reopen 15 = .ok (.iconst 1, 1) := by decide +kernel
theorem dX10_reopen_16 : decode cX10_reopen 16 = .ok (.goto 17, 3) := by decide +kernel
theorem dX10_reopen_19 : decode cX10_reopen 19 = .ok (.aload_n 0, 1) := by decide +kernel
theorem dX10_reopen_20 : decode cX10_reopen 20 = .ok (.getfield 44, 3) := by decide +kernel
theorem dX10_reopen_23 : decode cX10_reopen 23 = .ok (.iload_n 1, 1) := by decide +kernel
theorem dX10_reopen_24 : decode cX10_reopen 24 = .ok (.baload, 1) := by decide +kernel
theorem dX10_reopen_25 : decode cX10_reopen 25 = .ok (.ifCond .eq 7, 3) := by decide +kernel
theorem dX10_reopen_28 : decode cX10_reopen 28 = .ok (.iconst 2, 1) := by decide +kernel
theorem dX10_reopen_29 : decode cX10_reopen 29 = .ok (.goto 4, 3) := by decide +kernel
theorem dX10_reopen_32 : decode cX10_reopen 32 = .ok (.iconst 0, 1) := by decide +kernel
theorem dX10_reopen_33 : decode cX10_reopen 33 = .ok (.putfield 89, 3) := by decide +kernel
theorem dX10_reopen_36 : decode cX10_reopen 36 = .ok (.aload_n 0, 1) := by decide +kernel
theorem dX10_reopen_37 : decode cX10_reopen 37 = .ok (.getfield 89, 3) := by decide +kernel
theorem dX10_reopen_40 : decode cX10_reopen 40 = .ok (.ifCond .ne 10, 3) := by decide +kernel
theorem dX10_reopen_43 : decode cX10_reopen 43 = .ok (.aload_n 0, 1) := by decide +kernel
theorem dX10_reopen_44 : decode cX10_reopen 44 = .ok (.getfield 44, 3) := by decide +kernel
theorem dX10_reopen_47 : decode cX10_reopen 47 = .ok (.iload_n 1, 1) := by decide +kernel
theorem dX10_reopen_48 : decode cX10_reopen 48 = .ok (.iconst 1, 1) := by decide +kernel
theorem dX10_reopen_49 : decode cX10_reopen 49 = .ok (.bastore, 1) := by decide +kernel
theorem dX10_reopen_50 : decode cX10_reopen 50 = .ok (.return_, 1) := by decide +kernel
theorem dX10_discards_0 : decode cX10_discards 0 = .ok (.iload_n 1, 1) := by decide +kernel
theorem dX10_discards_1 : decode cX10_discards 1 = .ok (.iconst 1, 1) := by decide +kernel
theorem dX10_discards_2 : decode cX10_discards 2 = .ok (.bipush 16, 2) := by decide +kernel
theorem dX10_discards_4 : decode cX10_discards 4 = .ok (.invokestatic 172, 3) := by decide +kernel
theorem dX10_discards_7 : decode cX10_discards 7 = .ok (.ifCond .eq 17, 3) := by decide +kernel
theorem dX10_discards_10 : decode cX10_discards 10 = .ok (.iload_n 2, 1) := by decide +kernel
theorem dX10_discards_11 : decode cX10_discards 11 = .ok (.iconst 1, 1) := by decide +kernel
theorem dX10_discards_12 : decode cX10_discards 12 = .ok (.bipush 15, 2) := by decide +kernel
theorem dX10_discards_14 : decode cX10_discards 14 = .ok (.invokestatic 172, 3) := by decide +kernel
theorem dX10_discards_17 : decode cX10_discards 17 = .ok (.ifCond .eq 7, 3) := by decide +kernel
theorem dX10_discards_20 : decode cX10_discards 20 = .ok (.iconst 1, 1) := by decide +kernel
theorem dX10_discards_21 : decode cX10_discards 21 = .ok (.goto 4, 3) := by decide +kernel
theorem dX10_discards_24 : decode cX10_discards 24 = .ok (.iconst 0, 1) := by decide +kernel
theorem dX10_discards_25 : decode cX10_discards 25 = .ok (.istore_n 3, 1) := by decide +kernel
theorem dX10_discards_26 : decode cX10_discards 26 = .ok (.iload_n 3, 1) := by decide +kernel
theorem dX10_discards_27 : decode cX10_discards 27 = .ok (.ifCond .eq 44, 3) := by decide +kernel
theorem dX10_discards_30 : decode cX10_discards 30 = .ok (.aload_n 0, 1) := by decide +kernel
theorem dX10_discards_31 : decode cX10_discards 31 = .ok (.getfield 140, 3) := by decide +kernel
theorem dX10_discards_34 : decode cX10_discards 34 = .ok (.ifCond .eq 33, 3) := by decide +kernel
theorem dX10_discards_37 : decode cX10_discards 37 = .ok (.iload_n 1, 1) := by decide +kernel
theorem dX10_discards_38 : decode cX10_discards 38 = .ok (.aload_n 0, 1) := by decide +kernel
theorem dX10_discards_39 : decode cX10_discards 39 = .ok (.getfield 47, 3) := by decide +kernel
theorem dX10_discards_42 : decode cX10_discards 42 = .ok (.aload_n 0, 1) := by decide +kernel
theorem dX10_discards_43 : decode cX10_discards 43 = .ok (.getfield 140, 3) := by decide +kernel
theorem dX10_discards_46 : decode cX10_discards 46 = .ok (.iconst 1, 1) := by decide +kernel
theorem dX10_discards_47 : decode cX10_discards 47 = .ok (.isub, 1) := by decide +kernel
theorem dX10_discards_48 : decode cX10_discards 48 = .ok (.iaload, 1) := by decide +kernel
theorem dX10_discards_49 : decode cX10_discards 49 = .ok (.if_icmp .le 22, 3) := by decide +kernel
theorem dX10_discards_52 : decode cX10_discards 52 = .ok (.iload_n 2, 1) := by decide +kernel
theorem dX10_discards_53 : decode cX10_discards 53 = .ok (.aload_n 0, 1) := by decide +kernel
theorem dX10_discards_54 : decode cX10_discards 54 = .ok (.getfield 50, 3) := by decide +kernel
theorem dX10_discards_57 : decode cX10_discards 57 = .ok (.aload_n 0, 1) := by decide +kernel
theorem dX10_discards_58 : decode cX10_discards 58 = .ok (.getfield 140, 3) := by decide +kernel
theorem dX10_discards_61 : decode cX10_discards 61 = .ok (.iconst 1, 1) := by decide +kernel
theorem dX10_discards_62 : decode cX10_discards 62 = .ok (.isub, 1) := by decide +kernel
theorem dX10_discards_63 : decode cX10_discards 63 = .ok (.iaload, 1) := by decide +kernel
theorem dX10_discards_64 : decode cX10_discards 64 = .ok (.if_icmp .le 7, 3) := by decide +kernel
theorem dX10_discards_67 : decode cX10_discards 67 = .ok (.iconst 1, 1) := by decide +kernel
theorem dX10_discards_68 : decode cX10_discards 68 = .ok (.goto 4, 3) := by decide +kernel
theorem dX10_discards_71 : decode cX10_discards 71 = .ok (.iconst 0, 1) := by decide +kernel
theorem dX10_discards_72 : decode cX10_discards 72 = .ok (.istore_n 3, 1) := by decide +kernel
theorem dX10_discards_73 : decode cX10_discards 73 = .ok (.aload_n 0, 1) := by decide +kernel
theorem dX10_discards_74 : decode cX10_discards 74 = .ok (.iload_n 3, 1) := by decide +kernel
theorem dX10_discards_75 : decode cX10_discards 75 = .ok (.ifCond .ne 7, 3) := by decide +kernel
theorem dX10_discards_78 : decode cX10_discards 78 = .ok (.iconst 1, 1) := by decide +kernel
theorem dX10_discards_79 : decode cX10_discards 79 = .ok (.goto 17, 3) := by decide +kernel
theorem dX10_discards_82 : decode cX10_discards 82 = .ok (.aload_n 0, 1) := by decide +kernel
theorem dX10_discards_83 : decode cX10_discards 83 = .ok (.getfield 140, 3) := by decide +kernel
theorem dX10_discards_86 : decode cX10_discards 86 = .ok (.bipush 6, 2) := by decide +kernel
theorem dX10_discards_88 : decode cX10_discards 88 = .ok (.if_icmp .ne 7, 3) := by decide +kernel
theorem dX10_discards_91 : decode cX10_discards 91 = .ok (.iconst 2, 1) := by decide +kernel
theorem dX10_discards_92 : decode cX10_discards 92 = .ok (.goto 4, 3) := by decide +kernel
theorem dX10_discards_95 : decode cX10_discards 95 = .ok (.iconst 0, 1) := by decide +kernel
theorem dX10_discards_96 : decode cX10_discards 96 = .ok (.putfield 89, 3) := by decide +kernel
theorem dX10_discards_99 : decode cX10_discards 99 = .ok (.aload_n 0, 1) := by decide +kernel
theorem dX10_discards_100 : decode cX10_discards 100 = .ok (.getfield 89, 3) := by decide +kernel
theorem dX10_discards_103 : decode cX10_discards 103 = .ok (.ifCond .ne 33, 3) := by decide +kernel
theorem dX10_discards_106 : decode cX10_discards 106 = .ok (.aload_n 0, 1) := by decide +kernel
theorem dX10_discards_107 : decode cX10_discards 107 = .ok (.getfield 47, 3) := by decide +kernel
theorem dX10_discards_110 : decode cX10_discards 110 = .ok (.aload_n 0, 1) := by decide +kernel
theorem dX10_discards_111 : decode cX10_discards 111 = .ok (.getfield 140, 3) := by decide +kernel
theorem dX10_discards_114 : decode cX10_discards 114 = .ok (.iload_n 1, 1) := by decide +kernel
theorem dX10_discards_115 : decode cX10_discards 115 = .ok (.iastore, 1) := by decide +kernel
theorem dX10_discards_116 : decode cX10_discards 116 = .ok (.aload_n 0, 1) := by decide +kernel
theorem dX10_discards_117 : decode cX10_discards 117 = .ok (.getfield 50, 3) := by decide +kernel
theorem dX10_discards_120 : decode cX10_discards 120 = .ok (.aload_n 0, 1) := by decide +kernel
theorem dX10_discards_121 : decode cX10_discards 121 = .ok (.getfield 140, 3) := by decide +kernel
theorem dX10_discards_124 : decode cX10_discards 124 = .ok (.iload_n 2, 1) := by decide +kernel
theorem dX10_discards_125 : decode cX10_discards 125 = .ok (.iastore, 1) := by decide +kernel
theorem dX10_discards_126 : decode cX10_discards 126 = .ok (.aload_n 0, 1) := by decide +kernel
theorem dX10_discards_127 : decode cX10_discards 127 = .ok (.dup, 1) := by decide +kernel
theorem dX10_discards_128 : decode cX10_discards 128 = .ok (.getfield 140, 3) := by decide +kernel
theorem dX10_discards_131 : decode cX10_discards 131 = .ok (.iconst 1, 1) := by decide +kernel
theorem dX10_discards_132 : decode cX10_discards 132 = .ok (.iadd, 1) := by decide +kernel
theorem dX10_discards_133 : decode cX10_discards 133 = .ok (.putfield 140, 3) := by decide +kernel
theorem dX10_discards_136 : decode cX10_discards 136 = .ok (.return_, 1) := by decide +kernel
theorem dX10_lot_0 : decode cX10_lot 0 = .ok (.aload_n 0, 1) := by decide +kernel
theorem dX10_lot_1 : decode cX10_lot 1 = .ok (.iload_n 1, 1) := by decide +kernel
theorem dX10_lot_2 : decode cX10_lot 2 = .ok (.iconst 0, 1) := by decide +kernel
theorem dX10_lot_3 : decode cX10_lot 3 = .ok (.aload_n 0, 1) := by decide +kernel
theorem dX10_lot_4 : decode cX10_lot 4 = .ok (.getfield 102, 3) := by decide +kernel
theorem dX10_lot_7 : decode cX10_lot 7 = .ok (.iconst 1, 1) := by decide +kernel
theorem dX10_lot_8 : decode cX10_lot 8 = .ok (.isub, 1) := by decide +kernel
theorem dX10_lot_9 : decode cX10_lot 9 = .ok (.invokestatic 172, 3) := by decide +kernel
theorem dX10_lot_12 : decode cX10_lot 12 = .ok (.ifCond .ne 7, 3) := by decide +kernel
theorem dX10_lot_15 : decode cX10_lot 15 = .ok (.iconst 1, 1) := by decide +kernel
theorem dX10_lot_16 : decode cX10_lot 16 = .ok (.goto 19, 3) := by decide +kernel
theorem dX10_lot_19 : decode cX10_lot 19 = .ok (.iload_n 2, 1) := by decide +kernel
theorem dX10_lot_20 : decode cX10_lot 20 = .ok (.iconst 0, 1) := by decide +kernel
theorem dX10_lot_21 : decode cX10_lot 21 = .ok (.sipush 999, 3) := by decide +kernel
theorem dX10_lot_24 : decode cX10_lot 24 = .ok (.invokestatic 172, 3) := by decide +kernel
theorem dX10_lot_27 : decode cX10_lot 27 = .ok (.ifCond .eq 7, 3) := by decide +kernel
theorem dX10_lot_30 : decode cX10_lot 30 = .ok (.iconst 0, 1) := by decide +kernel
theorem dX10_lot_31 : decode cX10_lot 31 = .ok (.goto 4, 3) := by decide +kernel
theorem dX10_lot_34 : decode cX10_lot 34 = .ok (.iconst 2, 1) := by decide +kernel
theorem dX10_lot_35 : decode cX10_lot 35 = .ok (.putfield 89, 3) := by decide +kernel
theorem dX10_lot_38 : decode cX10_lot 38 = .ok (.aload_n 0, 1) := by decide +kernel
theorem dX10_lot_39 : decode cX10_lot 39 = .ok (.getfield 89, 3) := by decide +kernel
theorem dX10_lot_42 : decode cX10_lot 42 = .ok (.ifCond .le 5, 3) := by decide +kernel
theorem dX10_lot_45 : decode cX10_lot 45 = .ok (.iconst 0, 1) := by decide +kernel
theorem dX10_lot_46 : decode cX10_lot 46 = .ok (.ireturn, 1) := by decide +kernel
theorem dX10_lot_47 : decode cX10_lot 47 = .ok (.aload_n 0, 1) := by decide +kernel
theorem dX10_lot_48 : decode cX10_lot 48 = .ok (.getfield 7, 3) := by decide +kernel
theorem dX10_lot_51 : decode cX10_lot 51 = .ok (.iload_n 1, 1) := by decide +kernel
theorem dX10_lot_52 : decode cX10_lot 52 = .ok (.iaload, 1) := by decide +kernel
theorem dX10_lot_53 : decode cX10_lot 53 = .ok (.istore_n 3, 1) := by decide +kernel
theorem dX10_lot_54 : decode cX10_lot 54 = .ok (.aload_n 0, 1) := by decide +kernel
theorem dX10_lot_55 : decode cX10_lot 55 = .ok (.getfield 7, 3) := by decide +kernel
theorem dX10_lot_58 : decode cX10_lot 58 = .ok (.iload_n 1, 1) := by decide +kernel
theorem dX10_lot_59 : decode cX10_lot 59 = .ok (.iload_n 2, 1) := by decide +kernel
theorem dX10_lot_60 : decode cX10_lot 60 = .ok (.iastore, 1) := by decide +kernel
theorem dX10_lot_61 : decode cX10_lot 61 = .ok (.iload_n 3, 1) := by decide +kernel
theorem dX10_lot_62 : decode cX10_lot 62 = .ok (.ireturn, 1) := by decide +kernel
theorem dX10_split_0 : decode cX10_split 0 = .ok (.aload_n 0, 1) := by decide +kernel
theorem dX10_split_1 : decode cX10_split 1 = .ok (.invokevirtual 127, 3) := by decide +kernel
theorem dX10_split_4 : decode cX10_split 4 = .ok (.iconst 0, 1) := by decide +kernel
theorem dX10_split_5 : decode cX10_split 5 = .ok (.istore_n 3, 1) := by decide +kernel
theorem dX10_split_6 : decode cX10_split 6 = .ok (.iconst 0, 1) := by decide +kernel
theorem dX10_split_7 : decode cX10_split 7 = .ok (.istore 4, 2) := by decide +kernel
theorem dX10_split_9 : decode cX10_split 9 = .ok (.iload 4, 2) := by decide +kernel
theorem dX10_split_11 : decode cX10_split 11 = .ok (.aload_n 0, 1) := by decide +kernel
theorem dX10_split_12 : decode cX10_split 12 = .ok (.getfield 99, 3) := by decide +kernel
theorem dX10_split_15 : decode cX10_split 15 = .ok (.if_icmp .ge 29, 3) := by decide +kernel
theorem dX10_split_18 : decode cX10_split 18 = .ok (.iload_n 3, 1) := by decide +kernel
theorem dX10_split_19 : decode cX10_split 19 = .ok (.ifCond .ne 13, 3) := by decide +kernel
theorem dX10_split_22 : decode cX10_split 22 = .ok (.aload_n 0, 1) := by decide +kernel
theorem dX10_split_23 : decode cX10_split 23 = .ok (.getfield 62, 3) := by decide +kernel
theorem dX10_split_26 : decode cX10_split 26 = .ok (.iload 4, 2) := by decide +kernel
theorem dX10_split_28 : decode cX10_split 28 = .ok (.baload, 1) := by decide +kernel
theorem dX10_split_29 : decode cX10_split 29 = .ok (.ifCond .eq 7, 3) := by decide +kernel
theorem dX10_split_32 : decode cX10_split 32 = .ok (.iconst 1, 1) := by decide +kernel
theorem dX10_split_33 : decode cX10_split 33 = .ok (.goto 4, 3) := by decide +kernel
theorem dX10_split_36 : decode cX10_split 36 = .ok (.iconst 0, 1) := by decide +kernel
theorem dX10_split_37 : decode cX10_split 37 = .ok (.istore_n 3, 1) := by decide +kernel
theorem dX10_split_38 : decode cX10_split 38 = .ok (.iinc 4 1, 3) := by decide +kernel
theorem dX10_split_41 : decode cX10_split 41 = .ok (.goto (-32), 3) := by decide +kernel
theorem dX10_split_44 : decode cX10_split 44 = .ok (.aload_n 0, 1) := by decide +kernel
theorem dX10_split_45 : decode cX10_split 45 = .ok (.aload_n 0, 1) := by decide +kernel
theorem dX10_split_46 : decode cX10_split 46 = .ok (.getfield 168, 3) := by decide +kernel
theorem dX10_split_49 : decode cX10_split 49 = .ok (.ifCond .ne 7, 3) := by decide +kernel
theorem dX10_split_52 : decode cX10_split 52 = .ok (.iload_n 3, 1) := by decide +kernel
theorem dX10_split_53 : decode cX10_split 53 = .ok (.ifCond .ne 7, 3) := by decide +kernel
theorem dX10_split_56 : decode cX10_split 56 = .ok (.iconst 1, 1) := by decide +kernel
theorem dX10_split_57 : decode cX10_split 57 = .ok (.goto 36, 3) := by decide +kernel
theorem dX10_split_60 : decode cX10_split 60 = .ok (.iload_n 1, 1) := by decide +kernel
theorem dX10_split_61 : decode cX10_split 61 = .ok (.iconst 1, 1) := by decide +kernel
theorem dX10_split_62 : decode cX10_split 62 = .ok (.if_icmp .lt 26, 3) := by decide +kernel
theorem dX10_split_65 : decode cX10_split 65 = .ok (.iload_n 2, 1) := by decide +kernel
theorem dX10_split_66 : decode cX10_split 66 = .ok (.iconst 1, 1) := by decide +kernel
theorem dX10_split_67 : decode cX10_split 67 = .ok (.if_icmp .lt 21, 3) := by decide +kernel
theorem dX10_split_70 : decode cX10_split 70 = .ok (.iload_n 1, 1) := by decide +kernel
theorem dX10_split_71 : decode cX10_split 71 = .ok (.aload_n 0, 1) := by decide +kernel
theorem dX10_split_72 : decode cX10_split 72 = .ok (.getfield 102, 3) := by decide +kernel
theorem dX10_split_75 : decode cX10_split 75 = .ok (.if_icmp .gt 13, 3) := by decide +kernel
theorem dX10_split_78 : decode cX10_split 78 = .ok (.iload_n 2, 1) := by decide +kernel
theorem dX10_split_79 : decode cX10_split 79 = .ok (.aload_n 0, 1) := by decide +kernel
theorem dX10_split_80 : decode cX10_split 80 = .ok (.getfield 102, 3) := by decide +kernel
theorem dX10_split_83 : decode cX10_split 83 = .ok (.iload_n 1, 1) := by decide +kernel
theorem dX10_split_84 : decode cX10_split 84 = .ok (.isub, 1) := by decide +kernel
theorem dX10_split_85 : decode cX10_split 85 = .ok (.if_icmp .le 7, 3) := by decide +kernel
theorem dX10_split_88 : decode cX10_split 88 = .ok (.iconst 2, 1) := by decide +kernel
theorem dX10_split_89 : decode cX10_split 89 = .ok (.goto 4, 3) := by decide +kernel
theorem dX10_split_92 : decode cX10_split 92 = .ok (.iconst 0, 1) := by decide +kernel
theorem dX10_split_93 : decode cX10_split 93 = .ok (.putfield 89, 3) := by decide +kernel
theorem dX10_split_96 : decode cX10_split 96 = .ok (.aload_n 0, 1) := by decide +kernel
theorem dX10_split_97 : decode cX10_split 97 = .ok (.getfield 89, 3) := by decide +kernel
theorem dX10_split_100 : decode cX10_split 100 = .ok (.ifCond .le 5, 3) := by decide +kernel
theorem dX10_split_103 : decode cX10_split 103 = .ok (.iconst 0, 1) := by decide +kernel
theorem dX10_split_104 : decode cX10_split 104 = .ok (.ireturn, 1) := by decide +kernel
theorem dX10_split_105 : decode cX10_split 105 = .ok (.aload_n 0, 1) := by decide +kernel
theorem dX10_split_106 : decode cX10_split 106 = .ok (.invokevirtual 190, 3) := by decide +kernel
theorem dX10_split_109 : decode cX10_split 109 = .ok (.aload_n 0, 1) := by decide +kernel
theorem dX10_split_110 : decode cX10_split 110 = .ok (.invokevirtual 193, 3) := by decide +kernel
theorem dX10_split_113 : decode cX10_split 113 = .ok (.iconst 0, 1) := by decide +kernel
theorem dX10_split_114 : decode cX10_split 114 = .ok (.istore 4, 2) := by decide +kernel
theorem dX10_split_116 : decode cX10_split 116 = .ok (.iload 4, 2) := by decide +kernel
theorem dX10_split_118 : decode cX10_split 118 = .ok (.aload_n 0, 1) := by decide +kernel
theorem dX10_split_119 : decode cX10_split 119 = .ok (.getfield 102, 3) := by decide +kernel
theorem dX10_split_122 : decode cX10_split 122 = .ok (.if_icmp .ge 49, 3) := by decide +kernel
theorem dX10_split_125 : decode cX10_split 125 = .ok (.aload_n 0, 1) := by decide +kernel
theorem dX10_split_126 : decode cX10_split 126 = .ok (.getfield 13, 3) := by decide +kernel
theorem dX10_split_129 : decode cX10_split 129 = .ok (.iload 4, 2) := by decide +kernel
theorem dX10_split_131 : decode cX10_split 131 = .ok (.aload_n 0, 1) := by decide +kernel
theorem dX10_split_132 : decode cX10_split 132 = .ok (.getfield 83, 3) := by decide +kernel
theorem dX10_split_135 : decode cX10_split 135 = .ok (.iload 4, 2) := by decide +kernel
theorem dX10_split_137 : decode cX10_split 137 = .ok (.iaload, 1) := by decide +kernel
theorem dX10_split_138 : decode cX10_split 138 = .ok (.iload_n 1, 1) := by decide +kernel
theorem dX10_split_139 : decode cX10_split 139 = .ok (.if_icmp .gt 7, 3) := by decide +kernel
theorem dX10_split_142 : decode cX10_split 142 = .ok (.iconst 1, 1) := by decide +kernel
theorem dX10_split_143 : decode cX10_split 143 = .ok (.goto 21, 3) := by decide +kernel
theorem dX10_split_146 : decode cX10_split 146 = .ok (.aload_n 0, 1) := by decide +kernel
theorem dX10_split_147 : decode cX10_split 147 = .ok (.getfield 83, 3) := by decide +kernel
theorem dX10_split_150 : decode cX10_split 150 = .ok (.iload 4, 2) := by decide +kernel
theorem dX10_split_152 : decode cX10_split 152 = .ok (.iaload, 1) := by decide +kernel
theorem dX10_split_153 : decode cX10_split 153 = .ok (.iload_n 1, 1) := by decide +kernel
theorem dX10_split_154 : decode cX10_split 154 = .ok (.iload_n 2, 1) := by decide +kernel
theorem dX10_split_155 : decode cX10_split 155 = .ok (.iadd, 1) := by decide +kernel
theorem dX10_split_156 : decode cX10_split 156 = .ok (.if_icmp .gt 7, 3) := by decide +kernel
theorem dX10_split_159 : decode cX10_split 159 = .ok (.iconst 2, 1) := by decide +kernel
theorem dX10_split_160 : decode cX10_split 160 = .ok (.goto 4, 3) := by decide +kernel
theorem dX10_split_163 : decode cX10_split 163 = .ok (.iconst 3, 1) := by decide +kernel
theorem dX10_split_164 : decode cX10_split 164 = .ok (.iastore, 1) := by decide +kernel
theorem dX10_split_165 : decode cX10_split 165 = .ok (.iinc 4 1, 3) := by decide +kernel
theorem dX10_split_168 : decode cX10_split 168 = .ok (.goto (-52), 3) := by decide +kernel
theorem dX10_split_171 : decode cX10_split 171 = .ok (.aload_n 0, 1) := by decide +kernel
theorem dX10_split_172 : decode cX10_split 172 = .ok (.iconst 1, 1) := by decide +kernel
theorem dX10_split_173 : decode cX10_split 173 = .ok (.putfield 168, 3) := by decide +kernel
theorem dX10_split_176 : decode cX10_split 176 = .ok (.aload_n 0, 1) := by decide +kernel
theorem dX10_split_177 : decode cX10_split 177 = .ok (.getfield 102, 3) := by decide +kernel
theorem dX10_split_180 : decode cX10_split 180 = .ok (.iload_n 1, 1) := by decide +kernel
theorem dX10_split_181 : decode cX10_split 181 = .ok (.isub, 1) := by decide +kernel
theorem dX10_split_182 : decode cX10_split 182 = .ok (.iload_n 2, 1) := by decide +kernel
theorem dX10_split_183 : decode cX10_split 183 = .ok (.isub, 1) := by decide +kernel
theorem dX10_split_184 : decode cX10_split 184 = .ok (.ireturn, 1) := by decide +kernel
theorem dX10_points_0 : decode cX10_points 0 = .ok (.aload_n 0, 1) := by decide +kernel
theorem dX10_points_1 : decode cX10_points 1 = .ok (.aload_n 0, 1) := by decide +kernel
theorem dX10_points_2 : decode cX10_points 2 = .ok (.iload_n 1, 1) := by decide +kernel
theorem dX10_points_3 : decode cX10_points 3 = .ok (.iload_n 2, 1) := by decide +kernel
theorem dX10_points_4 : decode cX10_points 4 = .ok (.invokevirtual 176, 3) := by decide +kernel
theorem dX10_points_7 : decode cX10_points 7 = .ok (.ifCond .eq 7, 3) := by decide +kernel
theorem dX10_points_10 : decode cX10_points 10 = .ok (.iconst 0, 1) := by decide +kernel
theorem dX10_points_11 : decode cX10_points 11 = .ok (.goto 4, 3) := by decide +kernel
theorem dX10_points_14 : decode cX10_points 14 = .ok (.iconst 1, 1) := by decide +kernel
theorem dX10_points_15 : decode cX10_points 15 = .ok (.putfield 89, 3) := by decide +kernel
theorem dX10_points_18 : decode cX10_points 18 = .ok (.aload_n 0, 1) := by decide +kernel
theorem dX10_points_19 : decode cX10_points 19 = .ok (.getfield 89, 3) := by decide +kernel
theorem dX10_points_22 : decode cX10_points 22 = .ok (.ifCond .le 5, 3) := by decide +kernel
theorem dX10_points_25 : decode cX10_points 25 = .ok (.iconst 0, 1) := by decide +kernel
theorem dX10_points_26 : decode cX10_points 26 = .ok (.ireturn, 1) := by decide +kernel
theorem dX10_points_27 : decode cX10_points 27 = .ok (.aload_n 0, 1) := by decide +kernel
theorem dX10_points_28 : decode cX10_points 28 = .ok (.invokevirtual 190, 3) := by decide +kernel
theorem dX10_points_31 : decode cX10_points 31 = .ok (.aload_n 0, 1) := by decide +kernel
theorem dX10_points_32 : decode cX10_points 32 = .ok (.iload_n 1, 1) := by decide +kernel
theorem dX10_points_33 : decode cX10_points 33 = .ok (.iload_n 2, 1) := by decide +kernel
theorem dX10_points_34 : decode cX10_points 34 = .ok (.invokevirtual 120, 3) := by decide +kernel
theorem dX10_points_37 : decode cX10_points 37 = .ok (.ifCond .eq 17, 3) := by decide +kernel
theorem dX10_points_40 : decode cX10_points 40 = .ok (.aload_n 0, 1) := by decide +kernel
theorem dX10_points_41 : decode cX10_points 41 = .ok (.getfield 65, 3) := by decide +kernel
theorem dX10_points_44 : decode cX10_points 44 = .ok (.bipush 40, 2) := by decide +kernel
theorem dX10_points_46 : decode cX10_points 46 = .ok (.iload_n 1, 1) := by decide +kernel
theorem dX10_points_47 : decode cX10_points 47 = .ok (.imul, 1) := by decide +kernel
theorem dX10_points_48 : decode cX10_points 48 = .ok (.iload_n 2, 1) := by decide +kernel
theorem dX10_points_49 : decode cX10_points 49 = .ok (.iadd, 1) := by decide +kernel
theorem dX10_points_50 : decode cX10_points 50 = .ok (.iaload, 1) := by decide +kernel
theorem dX10_points_51 : decode cX10_points 51 = .ok (.goto 4, 3) := by decide +kernel
theorem dX10_points_54 : decode cX10_points 54 = .ok (.iconst (-1), 1) := by decide +kernel
theorem dX10_points_55 : decode cX10_points 55 = .ok (.ireturn, 1) := by decide +kernel
theorem dX10_isDiscard_0 : decode cX10_isDiscard 0 = .ok (.aload_n 0, 1) := by decide +kernel
theorem dX10_isDiscard_1 : decode cX10_isDiscard 1 = .ok (.aload_n 0, 1) := by decide +kernel
theorem dX10_isDiscard_2 : decode cX10_isDiscard 2 = .ok (.iload_n 1, 1) := by decide +kernel
theorem dX10_isDiscard_3 : decode cX10_isDiscard 3 = .ok (.iload_n 2, 1) := by decide +kernel
theorem dX10_isDiscard_4 : decode cX10_isDiscard 4 = .ok (.invokevirtual 176, 3) := by decide +kernel
theorem dX10_isDiscard_7 : decode cX10_isDiscard 7 = .ok (.ifCond .eq 7, 3) := by decide +kernel
theorem dX10_isDiscard_10 : decode cX10_isDiscard 10 = .ok (.iconst 0, 1) := by decide +kernel
theorem dX10_isDiscard_11 : decode cX10_isDiscard 11 = .ok (.goto 4, 3) := by decide +kernel
theorem dX10_isDiscard_14 : decode cX10_isDiscard 14 = .ok (.iconst 1, 1) := by decide +kernel
theorem dX10_isDiscard_15 : decode cX10_isDiscard 15 = .ok (.putfield 89, 3) := by decide +kernel
theorem dX10_isDiscard_18 : decode cX10_isDiscard 18 = .ok (.aload_n 0, 1) := by decide +kernel
theorem dX10_isDiscard_19 : decode cX10_isDiscard 19 = .ok (.getfield 89, 3) := by decide +kernel
theorem dX10_isDiscard_22 : decode cX10_isDiscard 22 = .ok (.ifCond .le 5, 3) := by decide +kernel
theorem dX10_isDiscard_25 : decode cX10_isDiscard 25 = .ok (.iconst 0, 1) := by decide +kernel
theorem dX10_isDiscard_26 : decode cX10_isDiscard 26 = .ok (.ireturn, 1) := by decide +kernel
theorem dX10_isDiscard_27 : decode cX10_isDiscard 27 = .ok (.aload_n 0, 1) := by decide +kernel
theorem dX10_isDiscard_28 : decode cX10_isDiscard 28 = .ok (.invokevirtual 190, 3) := by decide +kernel
theorem dX10_isDiscard_31 : decode cX10_isDiscard 31 = .ok (.aload_n 0, 1) := by decide +kernel
theorem dX10_isDiscard_32 : decode cX10_isDiscard 32 = .ok (.getfield 68, 3) := by decide +kernel
theorem dX10_isDiscard_35 : decode cX10_isDiscard 35 = .ok (.bipush 40, 2) := by decide +kernel
theorem dX10_isDiscard_37 : decode cX10_isDiscard 37 = .ok (.iload_n 1, 1) := by decide +kernel
theorem dX10_isDiscard_38 : decode cX10_isDiscard 38 = .ok (.imul, 1) := by decide +kernel
theorem dX10_isDiscard_39 : decode cX10_isDiscard 39 = .ok (.iload_n 2, 1) := by decide +kernel
theorem dX10_isDiscard_40 : decode cX10_isDiscard 40 = .ok (.iadd, 1) := by decide +kernel
theorem dX10_isDiscard_41 : decode cX10_isDiscard 41 = .ok (.baload, 1) := by decide +kernel
theorem dX10_isDiscard_42 : decode cX10_isDiscard 42 = .ok (.ireturn, 1) := by decide +kernel
theorem dX10_reckonFor_0 : decode cX10_reckonFor 0 = .ok (.aload_n 0, 1) := by decide +kernel
theorem dX10_reckonFor_1 : decode cX10_reckonFor 1 = .ok (.iload_n 1, 1) := by decide +kernel
theorem dX10_reckonFor_2 : decode cX10_reckonFor 2 = .ok (.iconst 0, 1) := by decide +kernel
theorem dX10_reckonFor_3 : decode cX10_reckonFor 3 = .ok (.aload_n 0, 1) := by decide +kernel
theorem dX10_reckonFor_4 : decode cX10_reckonFor 4 = .ok (.getfield 102, 3) := by decide +kernel
theorem dX10_reckonFor_7 : decode cX10_reckonFor 7 = .ok (.iconst 1, 1) := by decide +kernel
theorem dX10_reckonFor_8 : decode cX10_reckonFor 8 = .ok (.isub, 1) := by decide +kernel
theorem dX10_reckonFor_9 : decode cX10_reckonFor 9 = .ok (.invokestatic 172, 3) := by decide +kernel
theorem dX10_reckonFor_12 : decode cX10_reckonFor 12 = .ok (.ifCond .eq 7, 3) := by decide +kernel
theorem dX10_reckonFor_15 : decode cX10_reckonFor 15 = .ok (.iconst 0, 1) := by decide +kernel
theorem dX10_reckonFor_16 : decode cX10_reckonFor 16 = .ok (.goto 4, 3) := by decide +kernel
theorem dX10_reckonFor_19 : decode cX10_reckonFor 19 = .ok (.iconst 1, 1) := by decide +kernel
theorem dX10_reckonFor_20 : decode cX10_reckonFor 20 = .ok (.putfield 89, 3) := by decide +kernel
theorem dX10_reckonFor_23 : decode cX10_reckonFor 23 = .ok (.aload_n 0, 1) := by decide +kernel
theorem dX10_reckonFor_24 : decode cX10_reckonFor 24 = .ok (.getfield 89, 3) := by decide +kernel
theorem dX10_reckonFor_27 : decode cX10_reckonFor 27 = .ok (.ifCond .ne 7, 3) := by decide +kernel
theorem dX10_reckonFor_30 : decode cX10_reckonFor 30 = .ok (.aload_n 0, 1) := by decide +kernel
theorem dX10_reckonFor_31 : decode cX10_reckonFor 31 = .ok (.invokevirtual 190, 3) := by decide +kernel
theorem dX10_reckonFor_34 : decode cX10_reckonFor 34 = .ok (.aload_n 0, 1) := by decide +kernel
theorem dX10_reckonFor_35 : decode cX10_reckonFor 35 = .ok (.getfield 89, 3) := by decide +kernel
theorem dX10_reckonFor_38 : decode cX10_reckonFor 38 = .ok (.ifCond .ne 7, 3) := by decide +kernel
theorem dX10_reckonFor_41 : decode cX10_reckonFor 41 = .ok (.iconst 1, 1) := by decide +kernel
theorem dX10_reckonFor_42 : decode cX10_reckonFor 42 = .ok (.goto 4, 3) := by decide +kernel
theorem dX10_reckonFor_45 : decode cX10_reckonFor 45 = .ok (.iconst 0, 1) := by decide +kernel
theorem dX10_reckonFor_46 : decode cX10_reckonFor 46 = .ok (.ireturn, 1) := by decide +kernel
theorem dX10_net_0 : decode cX10_net 0 = .ok (.aload_n 0, 1) := by decide +kernel
theorem dX10_net_1 : decode cX10_net 1 = .ok (.iload_n 1, 1) := by decide +kernel
theorem dX10_net_2 : decode cX10_net 2 = .ok (.invokevirtual 196, 3) := by decide +kernel
theorem dX10_net_5 : decode cX10_net 5 = .ok (.ifCond .eq 12, 3) := by decide +kernel
theorem dX10_net_8 : decode cX10_net 8 = .ok (.aload_n 0, 1) := by decide +kernel
theorem dX10_net_9 : decode cX10_net 9 = .ok (.getfield 74, 3) := by decide +kernel
theorem dX10_net_12 : decode cX10_net 12 = .ok (.iload_n 1, 1) := by decide +kernel
theorem dX10_net_13 : decode cX10_net 13 = .ok (.iaload, 1) := by decide +kernel
theorem dX10_net_14 : decode cX10_net 14 = .ok (.goto 4, 3) := by decide +kernel
theorem dX10_net_17 : decode cX10_net 17 = .ok (.iconst 0, 1) := by decide +kernel
theorem dX10_net_18 : decode cX10_net 18 = .ok (.ireturn, 1) := by decide +kernel
theorem dX10_gross_0 : decode cX10_gross 0 = .ok (.aload_n 0, 1) := by decide +kernel
theorem dX10_gross_1 : decode cX10_gross 1 = .ok (.iload_n 1, 1) := by decide +kernel
theorem dX10_gross_2 : decode cX10_gross 2 = .ok (.invokevirtual 196, 3) := by decide +kernel
theorem dX10_gross_5 : decode cX10_gross 5 = .ok (.ifCond .eq 12, 3) := by decide +kernel
theorem dX10_gross_8 : decode cX10_gross 8 = .ok (.aload_n 0, 1) := by decide +kernel
theorem dX10_gross_9 : decode cX10_gross 9 = .ok (.getfield 71, 3) := by decide +kernel
theorem dX10_gross_12 : decode cX10_gross 12 = .ok (.iload_n 1, 1) := by decide +kernel
theorem dX10_gross_13 : decode cX10_gross 13 = .ok (.iaload, 1) := by decide +kernel
theorem dX10_gross_14 : decode cX10_gross 14 = .ok (.goto 4, 3) := by decide +kernel
theorem dX10_gross_17 : decode cX10_gross 17 = .ok (.iconst 0, 1) := by decide +kernel
theorem dX10_gross_18 : decode cX10_gross 18 = .ok (.ireturn, 1) := by decide +kernel
theorem dX10_mean_0 : decode cX10_mean 0 = .ok (.aload_n 0, 1) := by decide +kernel
theorem dX10_mean_1 : decode cX10_mean 1 = .ok (.iload_n 1, 1) := by decide +kernel
theorem dX10_mean_2 : decode cX10_mean 2 = .ok (.invokevirtual 196, 3) := by decide +kernel
theorem dX10_mean_5 : decode cX10_mean 5 = .ok (.ifCond .eq 16, 3) := by decide +kernel
theorem dX10_mean_8 : decode cX10_mean 8 = .ok (.aload_n 0, 1) := by decide +kernel
theorem dX10_mean_9 : decode cX10_mean 9 = .ok (.getfield 77, 3) := by decide +kernel
theorem dX10_mean_12 : decode cX10_mean 12 = .ok (.iload_n 1, 1) := by decide +kernel
theorem dX10_mean_13 : decode cX10_mean 13 = .ok (.iaload, 1) := by decide +kernel
theorem dX10_mean_14 : decode cX10_mean 14 = .ok (.ifCond .le 7, 3) := by decide +kernel
theorem dX10_mean_17 : decode cX10_mean 17 = .ok (.iconst 1, 1) := by decide +kernel
theorem dX10_mean_18 : decode cX10_mean 18 = .ok (.goto 4, 3) := by decide +kernel
theorem dX10_mean_21 : decode cX10_mean 21 = .ok (.iconst 0, 1) := by decide +kernel
theorem dX10_mean_22 : decode cX10_mean 22 = .ok (.istore_n 2, 1) := by decide +kernel
theorem dX10_mean_23 : decode cX10_mean 23 = .ok (.iload_n 2, 1) := by decide +kernel
theorem dX10_mean_24 : decode cX10_mean 24 = .ok (.ifCond .eq 24, 3) := by decide +kernel
theorem dX10_mean_27 : decode cX10_mean 27 = .ok (.aload_n 0, 1) := by decide +kernel
theorem dX10_mean_28 : decode cX10_mean 28 = .ok (.getfield 71, 3) := by decide +kernel
theorem dX10_mean_31 : decode cX10_mean 31 = .ok (.iload_n 1, 1) := by decide +kernel
theorem dX10_mean_32 : decode cX10_mean 32 = .ok (.iaload, 1) := by decide +kernel
theorem dX10_mean_33 : decode cX10_mean 33 = .ok (.i2d, 1) := by decide +kernel
theorem dX10_mean_34 : decode cX10_mean 34 = .ok (.bipush 10, 2) := by decide +kernel
theorem dX10_mean_36 : decode cX10_mean 36 = .ok (.aload_n 0, 1) := by decide +kernel
theorem dX10_mean_37 : decode cX10_mean 37 = .ok (.getfield 77, 3) := by decide +kernel
theorem dX10_mean_40 : decode cX10_mean 40 = .ok (.iload_n 1, 1) := by decide +kernel
theorem dX10_mean_41 : decode cX10_mean 41 = .ok (.iaload, 1) := by decide +kernel
theorem dX10_mean_42 : decode cX10_mean 42 = .ok (.imul, 1) := by decide +kernel
theorem dX10_mean_43 : decode cX10_mean 43 = .ok (.i2d, 1) := by decide +kernel
theorem dX10_mean_44 : decode cX10_mean 44 = .ok (.ddiv, 1) := by decide +kernel
theorem dX10_mean_45 : decode cX10_mean 45 = .ok (.goto 4, 3) := by decide +kernel
theorem dX10_mean_48 : decode cX10_mean 48 = .ok (.dconst 0, 1) := by decide +kernel
theorem dX10_mean_49 : decode cX10_mean 49 = .ok (.dreturn, 1) := by decide +kernel
theorem dX10_rank_0 : decode cX10_rank 0 = .ok (.aload_n 0, 1) := by decide +kernel
theorem dX10_rank_1 : decode cX10_rank 1 = .ok (.iload_n 1, 1) := by decide +kernel
theorem dX10_rank_2 : decode cX10_rank 2 = .ok (.invokevirtual 196, 3) := by decide +kernel
theorem dX10_rank_5 : decode cX10_rank 5 = .ok (.ifCond .eq 11, 3) := by decide +kernel
theorem dX10_rank_8 : decode cX10_rank 8 = .ok (.aload_n 0, 1) := by decide +kernel
theorem dX10_rank_9 : decode cX10_rank 9 = .ok (.iload_n 1, 1) := by decide +kernel
theorem dX10_rank_10 : decode cX10_rank 10 = .ok (.invokevirtual 199, 3) := by decide +kernel
theorem dX10_rank_13 : decode cX10_rank 13 = .ok (.goto 4, 3) := by decide +kernel
theorem dX10_rank_16 : decode cX10_rank 16 = .ok (.iconst 0, 1) := by decide +kernel
theorem dX10_rank_17 : decode cX10_rank 17 = .ok (.ireturn, 1) := by decide +kernel
theorem dX10_rankAll_0 : decode cX10_rankAll 0 = .ok (.iconst 0, 1) := by decide +kernel
theorem dX10_rankAll_1 : decode cX10_rankAll 1 = .ok (.istore_n 1, 1) := by decide +kernel
theorem dX10_rankAll_2 : decode cX10_rankAll 2 = .ok (.iload_n 1, 1) := by decide +kernel
theorem dX10_rankAll_3 : decode cX10_rankAll 3 = .ok (.aload_n 0, 1) := by decide +kernel
theorem dX10_rankAll_4 : decode cX10_rankAll 4 = .ok (.getfield 102, 3) := by decide +kernel
theorem dX10_rankAll_7 : decode cX10_rankAll 7 = .ok (.if_icmp .ge 20, 3) := by decide +kernel
theorem dX10_rankAll_10 : decode cX10_rankAll 10 = .ok (.aload_n 0, 1) := by decide +kernel
theorem dX10_rankAll_11 : decode cX10_rankAll 11 = .ok (.getfield 83, 3) := by decide +kernel
theorem dX10_rankAll_14 : decode cX10_rankAll 14 = .ok (.iload_n 1, 1) := by decide +kernel
theorem dX10_rankAll_15 : decode cX10_rankAll 15 = .ok (.aload_n 0, 1) := by decide +kernel
theorem dX10_rankAll_16 : decode cX10_rankAll 16 = .ok (.iload_n 1, 1) := by decide +kernel
theorem dX10_rankAll_17 : decode cX10_rankAll 17 = .ok (.invokevirtual 199, 3) := by decide +kernel
theorem dX10_rankAll_20 : decode cX10_rankAll 20 = .ok (.iastore, 1) := by decide +kernel
theorem dX10_rankAll_21 : decode cX10_rankAll 21 = .ok (.iinc 1 1, 3) := by decide +kernel
theorem dX10_rankAll_24 : decode cX10_rankAll 24 = .ok (.goto (-22), 3) := by decide +kernel
theorem dX10_rankAll_27 : decode cX10_rankAll 27 = .ok (.return_, 1) := by decide +kernel
theorem dX10_boatOf_0 : decode cX10_boatOf 0 = .ok (.iconst (-1), 1) := by decide +kernel
theorem dX10_boatOf_1 : decode cX10_boatOf 1 = .ok (.istore_n 2, 1) := by decide +kernel
theorem dX10_boatOf_2 : decode cX10_boatOf 2 = .ok (.iconst 0, 1) := by decide +kernel
theorem dX10_boatOf_3 : decode cX10_boatOf 3 = .ok (.istore_n 3, 1) := by decide +kernel
theorem dX10_boatOf_4 : decode cX10_boatOf 4 = .ok (.iload_n 3, 1) := by decide +kernel
theorem dX10_boatOf_5 : decode cX10_boatOf 5 = .ok (.aload_n 0, 1) := by decide +kernel
theorem dX10_boatOf_6 : decode cX10_boatOf 6 = .ok (.getfield 102, 3) := by decide +kernel
theorem dX10_boatOf_9 : decode cX10_boatOf 9 = .ok (.if_icmp .ge 25, 3) := by decide +kernel
theorem dX10_boatOf_12 : decode cX10_boatOf 12 = .ok (.aload_n 0, 1) := by decide +kernel
theorem dX10_boatOf_13 : decode cX10_boatOf 13 = .ok (.getfield 83, 3) := by decide +kernel
theorem dX10_boatOf_16 : decode cX10_boatOf 16 = .ok (.iload_n 3, 1) := by decide +kernel
theorem dX10_boatOf_17 : decode cX10_boatOf 17 = .ok (.iaload, 1) := by decide +kernel
theorem dX10_boatOf_18 : decode cX10_boatOf 18 = .ok (.iload_n 1, 1) := by decide +kernel
theorem dX10_boatOf_19 : decode cX10_boatOf 19 = .ok (.if_icmp .ne 7, 3) := by decide +kernel
theorem dX10_boatOf_22 : decode cX10_boatOf 22 = .ok (.iload_n 3, 1) := by decide +kernel
theorem dX10_boatOf_23 : decode cX10_boatOf 23 = .ok (.goto 4, 3) := by decide +kernel
theorem dX10_boatOf_26 : decode cX10_boatOf 26 = .ok (.iload_n 2, 1) := by decide +kernel
theorem dX10_boatOf_27 : decode cX10_boatOf 27 = .ok (.istore_n 2, 1) := by decide +kernel
theorem dX10_boatOf_28 : decode cX10_boatOf 28 = .ok (.iinc 3 1, 3) := by decide +kernel
theorem dX10_boatOf_31 : decode cX10_boatOf 31 = .ok (.goto (-27), 3) := by decide +kernel
theorem dX10_boatOf_34 : decode cX10_boatOf 34 = .ok (.iload_n 2, 1) := by decide +kernel
theorem dX10_boatOf_35 : decode cX10_boatOf 35 = .ok (.ireturn, 1) := by decide +kernel
theorem dX10_at_0 : decode cX10_at 0 = .ok (.aload_n 0, 1) := by decide +kernel
theorem dX10_at_1 : decode cX10_at 1 = .ok (.iload_n 1, 1) := by decide +kernel
theorem dX10_at_2 : decode cX10_at 2 = .ok (.iconst 1, 1) := by decide +kernel
theorem dX10_at_3 : decode cX10_at 3 = .ok (.aload_n 0, 1) := by decide +kernel
theorem dX10_at_4 : decode cX10_at 4 = .ok (.getfield 102, 3) := by decide +kernel
theorem dX10_at_7 : decode cX10_at 7 = .ok (.invokestatic 172, 3) := by decide +kernel
theorem dX10_at_10 : decode cX10_at 10 = .ok (.ifCond .eq 7, 3) := by decide +kernel
theorem dX10_at_13 : decode cX10_at 13 = .ok (.iconst 0, 1) := by decide +kernel
theorem dX10_at_14 : decode cX10_at 14 = .ok (.goto 4, 3) := by decide +kernel
theorem dX10_at_17 : decode cX10_at 17 = .ok (.iconst 1, 1) := by decide +kernel
theorem dX10_at_18 : decode cX10_at 18 = .ok (.putfield 89, 3) := by decide +kernel
theorem dX10_at_21 : decode cX10_at 21 = .ok (.aload_n 0, 1) := by decide +kernel
theorem dX10_at_22 : decode cX10_at 22 = .ok (.getfield 89, 3) := by decide +kernel
theorem dX10_at_25 : decode cX10_at 25 = .ok (.ifCond .le 5, 3) := by decide +kernel
theorem dX10_at_28 : decode cX10_at 28 = .ok (.iconst 0, 1) := by decide +kernel
theorem dX10_at_29 : decode cX10_at 29 = .ok (.ireturn, 1) := by decide +kernel
theorem dX10_at_30 : decode cX10_at 30 = .ok (.aload_n 0, 1) := by decide +kernel
theorem dX10_at_31 : decode cX10_at 31 = .ok (.invokevirtual 190, 3) := by decide +kernel
theorem dX10_at_34 : decode cX10_at 34 = .ok (.aload_n 0, 1) := by decide +kernel
theorem dX10_at_35 : decode cX10_at 35 = .ok (.invokevirtual 193, 3) := by decide +kernel
theorem dX10_at_38 : decode cX10_at 38 = .ok (.aload_n 0, 1) := by decide +kernel
theorem dX10_at_39 : decode cX10_at 39 = .ok (.iload_n 1, 1) := by decide +kernel
theorem dX10_at_40 : decode cX10_at 40 = .ok (.invokevirtual 202, 3) := by decide +kernel
theorem dX10_at_43 : decode cX10_at 43 = .ok (.ireturn, 1) := by decide +kernel
theorem dX10_tie_0 : decode cX10_tie 0 = .ok (.aload_n 0, 1) := by decide +kernel
theorem dX10_tie_1 : decode cX10_tie 1 = .ok (.iload_n 1, 1) := by decide +kernel
theorem dX10_tie_2 : decode cX10_tie 2 = .ok (.iconst 0, 1) := by decide +kernel
theorem dX10_tie_3 : decode cX10_tie 3 = .ok (.aload_n 0, 1) := by decide +kernel
theorem dX10_tie_4 : decode cX10_tie 4 = .ok (.getfield 102, 3) := by decide +kernel
theorem dX10_tie_7 : decode cX10_tie 7 = .ok (.iconst 1, 1) := by decide +kernel
theorem dX10_tie_8 : decode cX10_tie 8 = .ok (.isub, 1) := by decide +kernel
theorem dX10_tie_9 : decode cX10_tie 9 = .ok (.invokestatic 172, 3) := by decide +kernel
theorem dX10_tie_12 : decode cX10_tie 12 = .ok (.ifCond .eq 17, 3) := by decide +kernel
theorem dX10_tie_15 : decode cX10_tie 15 = .ok (.iload_n 2, 1) := by decide +kernel
theorem dX10_tie_16 : decode cX10_tie 16 = .ok (.iconst 0, 1) := by decide +kernel
theorem dX10_tie_17 : decode cX10_tie 17 = .ok (.aload_n 0, 1) := by decide +kernel
theorem dX10_tie_18 : decode cX10_tie 18 = .ok (.getfield 102, 3) := by decide +kernel
theorem dX10_tie_21 : decode cX10_tie 21 = .ok (.iconst 1, 1) := by decide +kernel
theorem dX10_tie_22 : decode cX10_tie 22 = .ok (.isub, 1) := by decide +kernel
theorem dX10_tie_23 : decode cX10_tie 23 = .ok (.invokestatic 172, 3) := by decide +kernel
theorem dX10_tie_26 : decode cX10_tie 26 = .ok (.ifCond .ne 7, 3) := by decide +kernel
theorem dX10_tie_29 : decode cX10_tie 29 = .ok (.iconst 1, 1) := by decide +kernel
theorem dX10_tie_30 : decode cX10_tie 30 = .ok (.goto 13, 3) := by decide +kernel
theorem dX10_tie_33 : decode cX10_tie 33 = .ok (.iload_n 1, 1) := by decide +kernel
theorem dX10_tie_34 : decode cX10_tie 34 = .ok (.iload_n 2, 1) := by decide +kernel
theorem dX10_tie_35 : decode cX10_tie 35 = .ok (.if_icmp .ne 7, 3) := by decide +kernel
theorem dX10_tie_38 : decode cX10_tie 38 = .ok (.iconst 2, 1) := by decide +kernel
theorem dX10_tie_39 : decode cX10_tie 39 = .ok (.goto 4, 3) := by decide +kernel
theorem dX10_tie_42 : decode cX10_tie 42 = .ok (.iconst 0, 1) := by decide +kernel
theorem dX10_tie_43 : decode cX10_tie 43 = .ok (.putfield 89, 3) := by decide +kernel
theorem dX10_tie_46 : decode cX10_tie 46 = .ok (.aload_n 0, 1) := by decide +kernel
theorem dX10_tie_47 : decode cX10_tie 47 = .ok (.getfield 89, 3) := by decide +kernel
theorem dX10_tie_50 : decode cX10_tie 50 = .ok (.ifCond .le 5, 3) := by decide +kernel
theorem dX10_tie_53 : decode cX10_tie 53 = .ok (.iconst 0, 1) := by decide +kernel
theorem dX10_tie_54 : decode cX10_tie 54 = .ok (.ireturn, 1) := by decide +kernel
theorem dX10_tie_55 : decode cX10_tie 55 = .ok (.aload_n 0, 1) := by decide +kernel
theorem dX10_tie_56 : decode cX10_tie 56 = .ok (.invokevirtual 190, 3) := by decide +kernel
theorem dX10_tie_59 : decode cX10_tie 59 = .ok (.aload_n 0, 1) := by decide +kernel
theorem dX10_tie_60 : decode cX10_tie 60 = .ok (.iload_n 1, 1) := by decide +kernel
theorem dX10_tie_61 : decode cX10_tie 61 = .ok (.iload_n 2, 1) := by decide +kernel
theorem dX10_tie_62 : decode cX10_tie 62 = .ok (.invokevirtual 165, 3) := by decide +kernel
theorem dX10_tie_65 : decode cX10_tie 65 = .ok (.istore_n 3, 1) := by decide +kernel
theorem dX10_tie_66 : decode cX10_tie 66 = .ok (.iload_n 3, 1) := by decide +kernel
theorem dX10_tie_67 : decode cX10_tie 67 = .ok (.ifCond .ne 7, 3) := by decide +kernel
theorem dX10_tie_70 : decode cX10_tie 70 = .ok (.iconst 0, 1) := by decide +kernel
theorem dX10_tie_71 : decode cX10_tie 71 = .ok (.goto 7, 3) := by decide +kernel
theorem dX10_tie_74 : decode cX10_tie 74 = .ok (.aload_n 0, 1) := by decide +kernel
theorem dX10_tie_75 : decode cX10_tie 75 = .ok (.getfield 156, 3) := by decide +kernel
theorem dX10_tie_78 : decode cX10_tie 78 = .ok (.ireturn, 1) := by decide +kernel
theorem dX10_what_0 : decode cX10_what 0 = .ok (.aload_n 0, 1) := by decide +kernel
theorem dX10_what_1 : decode cX10_what 1 = .ok (.aload_n 0, 1) := by decide +kernel
theorem dX10_what_2 : decode cX10_what 2 = .ok (.iload_n 1, 1) := by decide +kernel
theorem dX10_what_3 : decode cX10_what 3 = .ok (.iload_n 2, 1) := by decide +kernel
theorem dX10_what_4 : decode cX10_what 4 = .ok (.iload_n 3, 1) := by decide +kernel
theorem dX10_what_5 : decode cX10_what 5 = .ok (.iload 4, 2) := by decide +kernel
theorem dX10_what_7 : decode cX10_what 7 = .ok (.invokevirtual 179, 3) := by decide +kernel
theorem dX10_what_10 : decode cX10_what 10 = .ok (.putfield 89, 3) := by decide +kernel
theorem dX10_what_13 : decode cX10_what 13 = .ok (.aload_n 0, 1) := by decide +kernel
theorem dX10_what_14 : decode cX10_what 14 = .ok (.getfield 89, 3) := by decide +kernel
theorem dX10_what_17 : decode cX10_what 17 = .ok (.ifCond .le 5, 3) := by decide +kernel
theorem dX10_what_20 : decode cX10_what 20 = .ok (.iconst 0, 1) := by decide +kernel
theorem dX10_what_21 : decode cX10_what 21 = .ok (.ireturn, 1) := by decide +kernel
theorem dX10_what_22 : decode cX10_what 22 = .ok (.aload_n 0, 1) := by decide +kernel
theorem dX10_what_23 : decode cX10_what 23 = .ok (.bipush 40, 2) := by decide +kernel
theorem dX10_what_25 : decode cX10_what 25 = .ok (.bipush 40, 2) := by decide +kernel
theorem dX10_what_27 : decode cX10_what 27 = .ok (.iload_n 1, 1) := by decide +kernel
theorem dX10_what_28 : decode cX10_what 28 = .ok (.imul, 1) := by decide +kernel
theorem dX10_what_29 : decode cX10_what 29 = .ok (.iload_n 2, 1) := by decide +kernel
theorem dX10_what_30 : decode cX10_what 30 = .ok (.iadd, 1) := by decide +kernel
theorem dX10_what_31 : decode cX10_what 31 = .ok (.iload_n 3, 1) := by decide +kernel
theorem dX10_what_32 : decode cX10_what 32 = .ok (.iload 4, 2) := by decide +kernel
theorem dX10_what_34 : decode cX10_what 34 = .ok (.invokevirtual 187, 3) := by decide +kernel
theorem dX10_what_37 : decode cX10_what 37 = .ok (.aload_n 0, 1) := by decide +kernel
theorem dX10_what_38 : decode cX10_what 38 = .ok (.iconst 1, 1) := by decide +kernel
theorem dX10_what_39 : decode cX10_what 39 = .ok (.putfield 96, 3) := by decide +kernel
theorem dX10_what_42 : decode cX10_what 42 = .ok (.aload_n 0, 1) := by decide +kernel
theorem dX10_what_43 : decode cX10_what 43 = .ok (.invokevirtual 190, 3) := by decide +kernel
theorem dX10_what_46 : decode cX10_what 46 = .ok (.aload_n 0, 1) := by decide +kernel
theorem dX10_what_47 : decode cX10_what 47 = .ok (.iconst 0, 1) := by decide +kernel
theorem dX10_what_48 : decode cX10_what 48 = .ok (.putfield 96, 3) := by decide +kernel
theorem dX10_what_51 : decode cX10_what 51 = .ok (.aload_n 0, 1) := by decide +kernel
theorem dX10_what_52 : decode cX10_what 52 = .ok (.getfield 74, 3) := by decide +kernel
theorem dX10_what_55 : decode cX10_what 55 = .ok (.iload_n 2, 1) := by decide +kernel
theorem dX10_what_56 : decode cX10_what 56 = .ok (.iaload, 1) := by decide +kernel
theorem dX10_what_57 : decode cX10_what 57 = .ok (.ireturn, 1) := by decide +kernel
theorem dX10_missing_0 : decode cX10_missing 0 = .ok (.aload_n 0, 1) := by decide +kernel
theorem dX10_missing_1 : decode cX10_missing 1 = .ok (.iload_n 1, 1) := by decide +kernel
theorem dX10_missing_2 : decode cX10_missing 2 = .ok (.iconst 0, 1) := by decide +kernel
theorem dX10_missing_3 : decode cX10_missing 3 = .ok (.aload_n 0, 1) := by decide +kernel
theorem dX10_missing_4 : decode cX10_missing 4 = .ok (.getfield 99, 3) := by decide +kernel
theorem dX10_missing_7 : decode cX10_missing 7 = .ok (.iconst 1, 1) := by decide +kernel
theorem dX10_missing_8 : decode cX10_missing 8 = .ok (.isub, 1) := by decide +kernel
theorem dX10_missing_9 : decode cX10_missing 9 = .ok (.invokestatic 172, 3) := by decide +kernel
theorem dX10_missing_12 : decode cX10_missing 12 = .ok (.ifCond .eq 7, 3) := by decide +kernel
theorem dX10_missing_15 : decode cX10_missing 15 = .ok (.iconst 0, 1) := by decide +kernel
theorem dX10_missing_16 : decode cX10_missing 16 = .ok (.goto 4, 3) := by decide +kernel
theorem dX10_missing_19 : decode cX10_missing 19 = .ok (.iconst 1, 1) := by decide +kernel
theorem dX10_missing_20 : decode cX10_missing 20 = .ok (.putfield 89, 3) := by decide +kernel
theorem dX10_missing_23 : decode cX10_missing 23 = .ok (.aload_n 0, 1) := by decide +kernel
theorem dX10_missing_24 : decode cX10_missing 24 = .ok (.getfield 89, 3) := by decide +kernel
theorem dX10_missing_27 : decode cX10_missing 27 = .ok (.ifCond .le 5, 3) := by decide +kernel
theorem dX10_missing_30 : decode cX10_missing 30 = .ok (.iconst 0, 1) := by decide +kernel
theorem dX10_missing_31 : decode cX10_missing 31 = .ok (.ireturn, 1) := by decide +kernel
theorem dX10_missing_32 : decode cX10_missing 32 = .ok (.aload_n 0, 1) := by decide +kernel
theorem dX10_missing_33 : decode cX10_missing 33 = .ok (.invokevirtual 127, 3) := by decide +kernel
theorem dX10_missing_36 : decode cX10_missing 36 = .ok (.iconst (-1), 1) := by decide +kernel
theorem dX10_missing_37 : decode cX10_missing 37 = .ok (.istore_n 3, 1) := by decide +kernel
theorem dX10_missing_38 : decode cX10_missing 38 = .ok (.iconst (-1), 1) := by decide +kernel
theorem dX10_missing_39 : decode cX10_missing 39 = .ok (.istore 4, 2) := by decide +kernel
theorem dX10_missing_41 : decode cX10_missing 41 = .ok (.iconst 0, 1) := by decide +kernel
theorem dX10_missing_42 : decode cX10_missing 42 = .ok (.istore 5, 2) := by decide +kernel
theorem dX10_missing_44 : decode cX10_missing 44 = .ok (.iload 5, 2) := by decide +kernel
theorem dX10_missing_46 : decode cX10_missing 46 = .ok (.aload_n 0, 1) := by decide +kernel
theorem dX10_missing_47 : decode cX10_missing 47 = .ok (.getfield 102, 3) := by decide +kernel
theorem dX10_missing_50 : decode cX10_missing 50 = .ok (.if_icmp .ge 73, 3) := by decide +kernel
theorem dX10_missing_53 : decode cX10_missing 53 = .ok (.aload_n 0, 1) := by decide +kernel
theorem dX10_missing_54 : decode cX10_missing 54 = .ok (.iload_n 1, 1) := by decide +kernel
theorem dX10_missing_55 : decode cX10_missing 55 = .ok (.iload 5, 2) := by decide +kernel
theorem dX10_missing_57 : decode cX10_missing 57 = .ok (.invokevirtual 109, 3) := by decide +kernel
theorem dX10_missing_60 : decode cX10_missing 60 = .ok (.ifCond .eq 22, 3) := by decide +kernel
theorem dX10_missing_63 : decode cX10_missing 63 = .ok (.aload_n 0, 1) := by decide +kernel
theorem dX10_missing_64 : decode cX10_missing 64 = .ok (.getfield 53, 3) := by decide +kernel
theorem dX10_missing_67 : decode cX10_missing 67 = .ok (.bipush 40, 2) := by decide +kernel
theorem dX10_missing_69 : decode cX10_missing 69 = .ok (.iload_n 1, 1) := by decide +kernel
theorem dX10_missing_70 : decode cX10_missing 70 = .ok (.imul, 1) := by decide +kernel
theorem dX10_missing_71 : decode cX10_missing 71 = .ok (.iload 5, 2) := by decide +kernel
theorem dX10_missing_73 : decode cX10_missing 73 = .ok (.iadd, 1) := by decide +kernel
theorem dX10_missing_74 : decode cX10_missing 74 = .ok (.iaload, 1) := by decide +kernel
theorem dX10_missing_75 : decode cX10_missing 75 = .ok (.ifCond .ne 7, 3) := by decide +kernel
theorem dX10_missing_78 : decode cX10_missing 78 = .ok (.iconst 1, 1) := by decide +kernel
theorem dX10_missing_79 : decode cX10_missing 79 = .ok (.goto 4, 3) := by decide +kernel
theorem dX10_missing_82 : decode cX10_missing 82 = .ok (.iconst 0, 1) := by decide +kernel
theorem dX10_missing_83 : decode cX10_missing 83 = .ok (.istore 6, 2) := by decide +kernel
theorem dX10_missing_85 : decode cX10_missing 85 = .ok (.iload_n 3, 1) := by decide +kernel
theorem dX10_missing_86 : decode cX10_missing 86 = .ok (.iload 6, 2) := by decide +kernel
theorem dX10_missing_88 : decode cX10_missing 88 = .ok (.ifCond .eq 7, 3) := by decide +kernel
theorem dX10_missing_91 : decode cX10_missing 91 = .ok (.iconst 1, 1) := by decide +kernel
theorem dX10_missing_92 : decode cX10_missing 92 = .ok (.goto 4, 3) := by decide +kernel
theorem dX10_missing_95 : decode cX10_missing 95 = .ok (.iconst 0, 1) := by decide +kernel
theorem dX10_missing_96 : decode cX10_missing 96 = .ok (.iadd, 1) := by decide +kernel
theorem dX10_missing_97 : decode cX10_missing 97 = .ok (.istore_n 3, 1) := by decide +kernel
theorem dX10_missing_98 : decode cX10_missing 98 = .ok (.iload 6, 2) := by decide +kernel
theorem dX10_missing_100 : decode cX10_missing 100 = .ok (.ifCond .eq 13, 3) := by decide +kernel
theorem dX10_missing_103 : decode cX10_missing 103 = .ok (.iload_n 3, 1) := by decide +kernel
theorem dX10_missing_104 : decode cX10_missing 104 = .ok (.iload_n 2, 1) := by decide +kernel
theorem dX10_missing_105 : decode cX10_missing 105 = .ok (.if_icmp .ne 8, 3) := by decide +kernel
theorem dX10_missing_108 : decode cX10_missing 108 = .ok (.iload 5, 2) := by decide +kernel
theorem dX10_missing_110 : decode cX10_missing 110 = .ok (.goto 5, 3) := by decide +kernel
theorem dX10_missing_113 : decode cX10_missing 113 = .ok (.iload 4, 2) := by decide +kernel
theorem dX10_missing_115 : decode cX10_missing 115 = .ok (.istore 4, 2) := by decide +kernel
theorem dX10_missing_117 : decode cX10_missing 117 = .ok (.iinc 5 1, 3) := by decide +kernel
theorem dX10_missing_120 : decode cX10_missing 120 = .ok (.goto (-76), 3) := by decide +kernel
theorem dX10_missing_123 : decode cX10_missing 123 = .ok (.iload 4, 2) := by decide +kernel
theorem dX10_missing_125 : decode cX10_missing 125 = .ok (.ireturn, 1) := by decide +kernel
theorem dX10_told_0 : decode cX10_told 0 = .ok (.aload_n 0, 1) := by decide +kernel
theorem dX10_told_1 : decode cX10_told 1 = .ok (.iload_n 1, 1) := by decide +kernel
theorem dX10_told_2 : decode cX10_told 2 = .ok (.iconst 0, 1) := by decide +kernel
theorem dX10_told_3 : decode cX10_told 3 = .ok (.aload_n 0, 1) := by decide +kernel
theorem dX10_told_4 : decode cX10_told 4 = .ok (.getfield 102, 3) := by decide +kernel
theorem dX10_told_7 : decode cX10_told 7 = .ok (.iconst 1, 1) := by decide +kernel
theorem dX10_told_8 : decode cX10_told 8 = .ok (.isub, 1) := by decide +kernel
theorem dX10_told_9 : decode cX10_told 9 = .ok (.invokestatic 172, 3) := by decide +kernel
theorem dX10_told_12 : decode cX10_told 12 = .ok (.ifCond .ne 7, 3) := by decide +kernel
theorem dX10_told_15 : decode cX10_told 15 = .ok (.iconst 1, 1) := by decide +kernel
theorem dX10_told_16 : decode cX10_told 16 = .ok (.goto 17, 3) := by decide +kernel
theorem dX10_told_19 : decode cX10_told 19 = .ok (.iload_n 2, 1) := by decide +kernel
theorem dX10_told_20 : decode cX10_told 20 = .ok (.iconst 0, 1) := by decide +kernel
theorem dX10_told_21 : decode cX10_told 21 = .ok (.iconst 3, 1) := by decide +kernel
theorem dX10_told_22 : decode cX10_told 22 = .ok (.invokestatic 172, 3) := by decide +kernel
theorem dX10_told_25 : decode cX10_told 25 = .ok (.ifCond .eq 7, 3) := by decide +kernel
theorem dX10_told_28 : decode cX10_told 28 = .ok (.iconst 0, 1) := by decide +kernel
theorem dX10_told_29 : decode cX10_told 29 = .ok (.goto 4, 3) := by decide +kernel
theorem dX10_told_32 : decode cX10_told 32 = .ok (.iconst 2, 1) := by decide +kernel
theorem dX10_told_33 : decode cX10_told 33 = .ok (.putfield 89, 3) := by decide +kernel
theorem dX10_told_36 : decode cX10_told 36 = .ok (.aload_n 0, 1) := by decide +kernel
theorem dX10_told_37 : decode cX10_told 37 = .ok (.getfield 89, 3) := by decide +kernel
theorem dX10_told_40 : decode cX10_told 40 = .ok (.ifCond .le 5, 3) := by decide +kernel
theorem dX10_told_43 : decode cX10_told 43 = .ok (.iconst 0, 1) := by decide +kernel
theorem dX10_told_44 : decode cX10_told 44 = .ok (.ireturn, 1) := by decide +kernel
theorem dX10_told_45 : decode cX10_told 45 = .ok (.aload_n 0, 1) := by decide +kernel
theorem dX10_told_46 : decode cX10_told 46 = .ok (.invokevirtual 190, 3) := by decide +kernel
theorem dX10_told_49 : decode cX10_told 49 = .ok (.iload_n 2, 1) := by decide +kernel
theorem dX10_told_50 : decode cX10_told 50 = .ok (.ifCond .ne 12, 3) := by decide +kernel
theorem dX10_told_53 : decode cX10_told 53 = .ok (.aload_n 0, 1) := by decide +kernel
theorem dX10_told_54 : decode cX10_told 54 = .ok (.getfield 13, 3) := by decide +kernel
theorem dX10_told_57 : decode cX10_told 57 = .ok (.iload_n 1, 1) := by decide +kernel
theorem dX10_told_58 : decode cX10_told 58 = .ok (.iaload, 1) := by decide +kernel
theorem dX10_told_59 : decode cX10_told 59 = .ok (.goto 37, 3) := by decide +kernel
theorem dX10_told_62 : decode cX10_told 62 = .ok (.iload_n 2, 1) := by decide +kernel
theorem dX10_told_63 : decode cX10_told 63 = .ok (.iconst 1, 1) := by decide +kernel
theorem dX10_told_64 : decode cX10_told 64 = .ok (.if_icmp .ne 12, 3) := by decide +kernel
theorem dX10_told_67 : decode cX10_told 67 = .ok (.aload_n 0, 1) := by decide +kernel
theorem dX10_told_68 : decode cX10_told 68 = .ok (.getfield 7, 3) := by decide +kernel
theorem dX10_told_71 : decode cX10_told 71 = .ok (.iload_n 1, 1) := by decide +kernel
theorem dX10_told_72 : decode cX10_told 72 = .ok (.iaload, 1) := by decide +kernel
theorem dX10_told_73 : decode cX10_told 73 = .ok (.goto 23, 3) := by decide +kernel
theorem dX10_told_76 : decode cX10_told 76 = .ok (.iload_n 2, 1) := by decide +kernel
theorem dX10_told_77 : decode cX10_told 77 = .ok (.iconst 2, 1) := by decide +kernel
theorem dX10_told_78 : decode cX10_told 78 = .ok (.if_icmp .ne 12, 3) := by decide +kernel
theorem dX10_told_81 : decode cX10_told 81 = .ok (.aload_n 0, 1) := by decide +kernel
theorem dX10_told_82 : decode cX10_told 82 = .ok (.getfield 77, 3) := by decide +kernel
theorem dX10_told_85 : decode cX10_told 85 = .ok (.iload_n 1, 1) := by decide +kernel
theorem dX10_told_86 : decode cX10_told 86 = .ok (.iaload, 1) := by decide +kernel
theorem dX10_told_87 : decode cX10_told 87 = .ok (.goto 9, 3) := by decide +kernel
theorem dX10_told_90 : decode cX10_told 90 = .ok (.aload_n 0, 1) := by decide +kernel
theorem dX10_told_91 : decode cX10_told 91 = .ok (.getfield 80, 3) := by decide +kernel
theorem dX10_told_94 : decode cX10_told 94 = .ok (.iload_n 1, 1) := by decide +kernel
theorem dX10_told_95 : decode cX10_told 95 = .ok (.iaload, 1) := by decide +kernel
theorem dX10_told_96 : decode cX10_told 96 = .ok (.ireturn, 1) := by decide +kernel
theorem dX10_say_0 : decode cX10_say 0 = .ok (.aload_n 0, 1) := by decide +kernel
theorem dX10_say_1 : decode cX10_say 1 = .ok (.getfield 86, 3) := by decide +kernel
theorem dX10_say_4 : decode cX10_say 4 = .ok (.aload_n 0, 1) := by decide +kernel
theorem dX10_say_5 : decode cX10_say 5 = .ok (.getfield 205, 3) := by decide +kernel
theorem dX10_say_8 : decode cX10_say 8 = .ok (.iload_n 1, 1) := by decide +kernel
theorem dX10_say_9 : decode cX10_say 9 = .ok (.iastore, 1) := by decide +kernel
theorem dX10_say_10 : decode cX10_say 10 = .ok (.aload_n 0, 1) := by decide +kernel
theorem dX10_say_11 : decode cX10_say 11 = .ok (.dup, 1) := by decide +kernel
theorem dX10_say_12 : decode cX10_say 12 = .ok (.getfield 205, 3) := by decide +kernel
theorem dX10_say_15 : decode cX10_say 15 = .ok (.iconst 1, 1) := by decide +kernel
theorem dX10_say_16 : decode cX10_say 16 = .ok (.iadd, 1) := by decide +kernel
theorem dX10_say_17 : decode cX10_say 17 = .ok (.putfield 205, 3) := by decide +kernel
theorem dX10_say_20 : decode cX10_say 20 = .ok (.return_, 1) := by decide +kernel
theorem dX10_sayNumber_0 : decode cX10_sayNumber 0 = .ok (.iconst 1, 1) := by decide +kernel
theorem dX10_sayNumber_1 : decode cX10_sayNumber 1 = .ok (.istore_n 2, 1) := by decide +kernel
theorem dX10_sayNumber_2 : decode cX10_sayNumber 2 = .ok (.iload_n 1, 1) := by decide +kernel
theorem dX10_sayNumber_3 : decode cX10_sayNumber 3 = .ok (.iload_n 2, 1) := by decide +kernel
theorem dX10_sayNumber_4 : decode cX10_sayNumber 4 = .ok (.idiv, 1) := by decide +kernel
theorem dX10_sayNumber_5 : decode cX10_sayNumber 5 = .ok (.bipush 9, 2) := by decide +kernel
theorem dX10_sayNumber_7 : decode cX10_sayNumber 7 = .ok (.if_icmp .le 11, 3) := by decide +kernel
theorem dX10_sayNumber_10 : decode cX10_sayNumber 10 = .ok (.bipush 10, 2) := by decide +kernel
theorem dX10_sayNumber_12 : decode cX10_sayNumber 12 = .ok (.iload_n 2, 1) := by decide +kernel
theorem dX10_sayNumber_13 : decode cX10_sayNumber 13 = .ok (.imul, 1) := by decide +kernel
theorem dX10_sayNumber_14 : decode cX10_sayNumber 14 = .ok (.istore_n 2, 1) := by decide +kernel
theorem dX10_sayNumber_15 : decode cX10_sayNumber 15 = .ok (.goto (-13), 3) := by decide +kernel
theorem dX10_sayNumber_18 : decode cX10_sayNumber 18 = .ok (.iload_n 2, 1) := by decide +kernel
theorem dX10_sayNumber_19 : decode cX10_sayNumber 19 = .ok (.ifCond .le 24, 3) := by decide +kernel
theorem dX10_sayNumber_22 : decode cX10_sayNumber 22 = .ok (.aload_n 0, 1) := by decide +kernel
theorem dX10_sayNumber_23 : decode cX10_sayNumber 23 = .ok (.bipush 48, 2) := by decide +kernel
theorem dX10_sayNumber_25 : decode cX10_sayNumber 25 = .ok (.iload_n 1, 1) := by decide +kernel
theorem dX10_sayNumber_26 : decode cX10_sayNumber 26 = .ok (.iload_n 2, 1) := by decide +kernel
theorem dX10_sayNumber_27 : decode cX10_sayNumber 27 = .ok (.idiv, 1) := by decide +kernel
theorem dX10_sayNumber_28 : decode cX10_sayNumber 28 = .ok (.bipush 10, 2) := by decide +kernel
theorem dX10_sayNumber_30 : decode cX10_sayNumber 30 = .ok (.irem, 1) := by decide +kernel
theorem dX10_sayNumber_31 : decode cX10_sayNumber 31 = .ok (.iadd, 1) := by decide +kernel
theorem dX10_sayNumber_32 : decode cX10_sayNumber 32 = .ok (.invokevirtual 208, 3) := by decide +kernel
theorem dX10_sayNumber_35 : decode cX10_sayNumber 35 = .ok (.iload_n 2, 1) := by decide +kernel
theorem dX10_sayNumber_36 : decode cX10_sayNumber 36 = .ok (.bipush 10, 2) := by decide +kernel
theorem dX10_sayNumber_38 : decode cX10_sayNumber 38 = .ok (.idiv, 1) := by decide +kernel
theorem dX10_sayNumber_39 : decode cX10_sayNumber 39 = .ok (.istore_n 2, 1) := by decide +kernel
theorem dX10_sayNumber_40 : decode cX10_sayNumber 40 = .ok (.goto (-22), 3) := by decide +kernel
theorem dX10_sayNumber_43 : decode cX10_sayNumber 43 = .ok (.return_, 1) := by decide +kernel
theorem dX10_sayTenths_0 : decode cX10_sayTenths 0 = .ok (.aload_n 0, 1) := by decide +kernel
theorem dX10_sayTenths_1 : decode cX10_sayTenths 1 = .ok (.iload_n 1, 1) := by decide +kernel
theorem dX10_sayTenths_2 : decode cX10_sayTenths 2 = .ok (.bipush 10, 2) := by decide +kernel
theorem dX10_sayTenths_4 : decode cX10_sayTenths 4 = .ok (.idiv, 1) := by decide +kernel
theorem dX10_sayTenths_5 : decode cX10_sayTenths 5 = .ok (.invokevirtual 211, 3) := by decide +kernel
theorem dX10_sayTenths_8 : decode cX10_sayTenths 8 = .ok (.aload_n 0, 1) := by decide +kernel
theorem dX10_sayTenths_9 : decode cX10_sayTenths 9 = .ok (.bipush 46, 2) := by decide +kernel
theorem dX10_sayTenths_11 : decode cX10_sayTenths 11 = .ok (.invokevirtual 208, 3) := by decide +kernel
theorem dX10_sayTenths_14 : decode cX10_sayTenths 14 = .ok (.aload_n 0, 1) := by decide +kernel
theorem dX10_sayTenths_15 : decode cX10_sayTenths 15 = .ok (.bipush 48, 2) := by decide +kernel
theorem dX10_sayTenths_17 : decode cX10_sayTenths 17 = .ok (.iload_n 1, 1) := by decide +kernel
theorem dX10_sayTenths_18 : decode cX10_sayTenths 18 = .ok (.bipush 10, 2) := by decide +kernel
theorem dX10_sayTenths_20 : decode cX10_sayTenths 20 = .ok (.irem, 1) := by decide +kernel
theorem dX10_sayTenths_21 : decode cX10_sayTenths 21 = .ok (.iadd, 1) := by decide +kernel
theorem dX10_sayTenths_22 : decode cX10_sayTenths 22 = .ok (.invokevirtual 208, 3) := by decide +kernel
theorem dX10_sayTenths_25 : decode cX10_sayTenths 25 = .ok (.return_, 1) := by decide +kernel
theorem dX10_sayThree_0 : decode cX10_sayThree 0 = .ok (.aload_n 0, 1) := by decide +kernel
theorem dX10_sayThree_1 : decode cX10_sayThree 1 = .ok (.iload_n 1, 1) := by decide +kernel
theorem dX10_sayThree_2 : decode cX10_sayThree 2 = .ok (.invokevirtual 208, 3) := by decide +kernel
theorem dX10_sayThree_5 : decode cX10_sayThree 5 = .ok (.aload_n 0, 1) := by decide +kernel
theorem dX10_sayThree_6 : decode cX10_sayThree 6 = .ok (.iload_n 2, 1) := by decide +kernel
theorem dX10_sayThree_7 : decode cX10_sayThree 7 = .ok (.invokevirtual 208, 3) := by decide +kernel
theorem dX10_sayThree_10 : decode cX10_sayThree 10 = .ok (.aload_n 0, 1) := by decide +kernel
theorem dX10_sayThree_11 : decode cX10_sayThree 11 = .ok (.iload_n 3, 1) := by decide +kernel
theorem dX10_sayThree_12 : decode cX10_sayThree 12 = .ok (.invokevirtual 208, 3) := by decide +kernel
theorem dX10_sayThree_15 : decode cX10_sayThree 15 = .ok (.return_, 1) := by decide +kernel
theorem dX10_sayEntry_0 : decode cX10_sayEntry 0 = .ok (.iload_n 1, 1) := by decide +kernel
theorem dX10_sayEntry_1 : decode cX10_sayEntry 1 = .ok (.tableswitch 168 0 8 #[51, 64, 77, 90, 103, 116, 129, 142, 155], 51) := by decide +kernel
theorem dX10_sayEntry_52 : decode cX10_sayEntry 52 = .ok (.aload_n 0, 1) := by decide +kernel
theorem dX10_sayEntry_53 : decode cX10_sayEntry 53 = .ok (.bipush 68, 2) := by decide +kernel
theorem dX10_sayEntry_55 : decode cX10_sayEntry 55 = .ok (.bipush 78, 2) := by decide +kernel
theorem dX10_sayEntry_57 : decode cX10_sayEntry 57 = .ok (.bipush 67, 2) := by decide +kernel
theorem dX10_sayEntry_59 : decode cX10_sayEntry 59 = .ok (.invokevirtual 214, 3) := by decide +kernel
theorem dX10_sayEntry_62 : decode cX10_sayEntry 62 = .ok (.goto 121, 3) := by decide +kernel
theorem dX10_sayEntry_65 : decode cX10_sayEntry 65 = .ok (.aload_n 0, 1) := by decide +kernel
theorem dX10_sayEntry_66 : decode cX10_sayEntry 66 = .ok (.bipush 68, 2) := by decide +kernel
theorem dX10_sayEntry_68 : decode cX10_sayEntry 68 = .ok (.bipush 78, 2) := by decide +kernel
theorem dX10_sayEntry_70 : decode cX10_sayEntry 70 = .ok (.bipush 83, 2) := by decide +kernel
theorem dX10_sayEntry_72 : decode cX10_sayEntry 72 = .ok (.invokevirtual 214, 3) := by decide +kernel
theorem dX10_sayEntry_75 : decode cX10_sayEntry 75 = .ok (.goto 108, 3) := by decide +kernel
theorem dX10_sayEntry_78 : decode cX10_sayEntry 78 = .ok (.aload_n 0, 1) := by decide +kernel
theorem dX10_sayEntry_79 : decode cX10_sayEntry 79 = .ok (.bipush 79, 2) := by decide +kernel
theorem dX10_sayEntry_81 : decode cX10_sayEntry 81 = .ok (.bipush 67, 2) := by decide +kernel
theorem dX10_sayEntry_83 : decode cX10_sayEntry 83 = .ok (.bipush 83, 2) := by decide +kernel
theorem dX10_sayEntry_85 : decode cX10_sayEntry 85 = .ok (.invokevirtual 214, 3) := by decide +kernel
theorem dX10_sayEntry_88 : decode cX10_sayEntry 88 = .ok (.goto 95, 3) := by decide +kernel
theorem dX10_sayEntry_91 : decode cX10_sayEntry 91 = .ok (.aload_n 0, 1) := by decide +kernel
theorem dX10_sayEntry_92 : decode cX10_sayEntry 92 = .ok (.bipush 82, 2) := by decide +kernel
theorem dX10_sayEntry_94 : decode cX10_sayEntry 94 = .ok (.bipush 69, 2) := by decide +kernel
theorem dX10_sayEntry_96 : decode cX10_sayEntry 96 = .ok (.bipush 84, 2) := by decide +kernel
theorem dX10_sayEntry_98 : decode cX10_sayEntry 98 = .ok (.invokevirtual 214, 3) := by decide +kernel
theorem dX10_sayEntry_101 : decode cX10_sayEntry 101 = .ok (.goto 82, 3) := by decide +kernel
theorem dX10_sayEntry_104 : decode cX10_sayEntry 104 = .ok (.aload_n 0, 1) := by decide +kernel
theorem dX10_sayEntry_105 : decode cX10_sayEntry 105 = .ok (.bipush 68, 2) := by decide +kernel
theorem dX10_sayEntry_107 : decode cX10_sayEntry 107 = .ok (.bipush 83, 2) := by decide +kernel
theorem dX10_sayEntry_109 : decode cX10_sayEntry 109 = .ok (.bipush 81, 2) := by decide +kernel
theorem dX10_sayEntry_111 : decode cX10_sayEntry 111 = .ok (.invokevirtual 214, 3) := by decide +kernel
theorem dX10_sayEntry_114 : decode cX10_sayEntry 114 = .ok (.goto 69, 3) := by decide +kernel
theorem dX10_sayEntry_117 : decode cX10_sayEntry 117 = .ok (.aload_n 0, 1) := by decide +kernel
theorem dX10_sayEntry_118 : decode cX10_sayEntry 118 = .ok (.bipush 68, 2) := by decide +kernel
theorem dX10_sayEntry_120 : decode cX10_sayEntry 120 = .ok (.bipush 78, 2) := by decide +kernel
theorem dX10_sayEntry_122 : decode cX10_sayEntry 122 = .ok (.bipush 69, 2) := by decide +kernel
theorem dX10_sayEntry_124 : decode cX10_sayEntry 124 = .ok (.invokevirtual 214, 3) := by decide +kernel
theorem dX10_sayEntry_127 : decode cX10_sayEntry 127 = .ok (.goto 56, 3) := by decide +kernel
theorem dX10_sayEntry_130 : decode cX10_sayEntry 130 = .ok (.aload_n 0, 1) := by decide +kernel
theorem dX10_sayEntry_131 : decode cX10_sayEntry 131 = .ok (.bipush 82, 2) := by decide +kernel
theorem dX10_sayEntry_133 : decode cX10_sayEntry 133 = .ok (.bipush 68, 2) := by decide +kernel
theorem dX10_sayEntry_135 : decode cX10_sayEntry 135 = .ok (.bipush 65, 2) := by decide +kernel
theorem dX10_sayEntry_137 : decode cX10_sayEntry 137 = .ok (.invokevirtual 214, 3) := by decide +kernel
theorem dX10_sayEntry_140 : decode cX10_sayEntry 140 = .ok (.goto 43, 3) := by decide +kernel
theorem dX10_sayEntry_143 : decode cX10_sayEntry 143 = .ok (.aload_n 0, 1) := by decide +kernel
theorem dX10_sayEntry_144 : decode cX10_sayEntry 144 = .ok (.bipush 82, 2) := by decide +kernel
theorem dX10_sayEntry_146 : decode cX10_sayEntry 146 = .ok (.bipush 68, 2) := by decide +kernel
theorem dX10_sayEntry_148 : decode cX10_sayEntry 148 = .ok (.bipush 66, 2) := by decide +kernel
theorem dX10_sayEntry_150 : decode cX10_sayEntry 150 = .ok (.invokevirtual 214, 3) := by decide +kernel
theorem dX10_sayEntry_153 : decode cX10_sayEntry 153 = .ok (.goto 30, 3) := by decide +kernel
theorem dX10_sayEntry_156 : decode cX10_sayEntry 156 = .ok (.aload_n 0, 1) := by decide +kernel
theorem dX10_sayEntry_157 : decode cX10_sayEntry 157 = .ok (.bipush 82, 2) := by decide +kernel
theorem dX10_sayEntry_159 : decode cX10_sayEntry 159 = .ok (.bipush 68, 2) := by decide +kernel
theorem dX10_sayEntry_161 : decode cX10_sayEntry 161 = .ok (.bipush 71, 2) := by decide +kernel
theorem dX10_sayEntry_163 : decode cX10_sayEntry 163 = .ok (.invokevirtual 214, 3) := by decide +kernel
theorem dX10_sayEntry_166 : decode cX10_sayEntry 166 = .ok (.goto 17, 3) := by decide +kernel
theorem dX10_sayEntry_169 : decode cX10_sayEntry 169 = .ok (.iload_n 2, 1) := by decide +kernel
theorem dX10_sayEntry_170 : decode cX10_sayEntry 170 = .ok (.ifCond .eq 13, 3) := by decide +kernel
theorem dX10_sayEntry_173 : decode cX10_sayEntry 173 = .ok (.aload_n 0, 1) := by decide +kernel
theorem dX10_sayEntry_174 : decode cX10_sayEntry 174 = .ok (.bipush 83, 2) := by decide +kernel
theorem dX10_sayEntry_176 : decode cX10_sayEntry 176 = .ok (.bipush 67, 2) := by decide +kernel
theorem dX10_sayEntry_178 : decode cX10_sayEntry 178 = .ok (.bipush 80, 2) := by decide +kernel
theorem dX10_sayEntry_180 : decode cX10_sayEntry 180 = .ok (.invokevirtual 214, 3) := by decide +kernel
theorem dX10_sayEntry_183 : decode cX10_sayEntry 183 = .ok (.return_, 1) := by decide +kernel
theorem dX10_sayBoat_0 : decode cX10_sayBoat 0 = .ok (.aload_n 0, 1) := by decide +kernel
theorem dX10_sayBoat_1 : decode cX10_sayBoat 1 = .ok (.iload_n 1, 1) := by decide +kernel
theorem dX10_sayBoat_2 : decode cX10_sayBoat 2 = .ok (.invokevirtual 211, 3) := by decide +kernel
theorem dX10_sayBoat_5 : decode cX10_sayBoat 5 = .ok (.aload_n 0, 1) := by decide +kernel
theorem dX10_sayBoat_6 : decode cX10_sayBoat 6 = .ok (.bipush 46, 2) := by decide +kernel
theorem dX10_sayBoat_8 : decode cX10_sayBoat 8 = .ok (.invokevirtual 208, 3) := by decide +kernel
theorem dX10_sayBoat_11 : decode cX10_sayBoat 11 = .ok (.aload_n 0, 1) := by decide +kernel
theorem dX10_sayBoat_12 : decode cX10_sayBoat 12 = .ok (.bipush 32, 2) := by decide +kernel
theorem dX10_sayBoat_14 : decode cX10_sayBoat 14 = .ok (.invokevirtual 208, 3) := by decide +kernel
theorem dX10_sayBoat_17 : decode cX10_sayBoat 17 = .ok (.aload_n 0, 1) := by decide +kernel
theorem dX10_sayBoat_18 : decode cX10_sayBoat 18 = .ok (.iload_n 2, 1) := by decide +kernel
theorem dX10_sayBoat_19 : decode cX10_sayBoat 19 = .ok (.invokevirtual 211, 3) := by decide +kernel
theorem dX10_sayBoat_22 : decode cX10_sayBoat 22 = .ok (.aload_n 0, 1) := by decide +kernel
theorem dX10_sayBoat_23 : decode cX10_sayBoat 23 = .ok (.bipush 32, 2) := by decide +kernel
theorem dX10_sayBoat_25 : decode cX10_sayBoat 25 = .ok (.invokevirtual 208, 3) := by decide +kernel
theorem dX10_sayBoat_28 : decode cX10_sayBoat 28 = .ok (.aload_n 0, 1) := by decide +kernel
theorem dX10_sayBoat_29 : decode cX10_sayBoat 29 = .ok (.aload_n 0, 1) := by decide +kernel
theorem dX10_sayBoat_30 : decode cX10_sayBoat 30 = .ok (.getfield 74, 3) := by decide +kernel
theorem dX10_sayBoat_33 : decode cX10_sayBoat 33 = .ok (.iload_n 2, 1) := by decide +kernel
theorem dX10_sayBoat_34 : decode cX10_sayBoat 34 = .ok (.iaload, 1) := by decide +kernel
theorem dX10_sayBoat_35 : decode cX10_sayBoat 35 = .ok (.invokevirtual 218, 3) := by decide +kernel
theorem dX10_sayBoat_38 : decode cX10_sayBoat 38 = .ok (.aload_n 0, 1) := by decide +kernel
theorem dX10_sayBoat_39 : decode cX10_sayBoat 39 = .ok (.bipush 32, 2) := by decide +kernel
theorem dX10_sayBoat_41 : decode cX10_sayBoat 41 = .ok (.invokevirtual 208, 3) := by decide +kernel
theorem dX10_sayBoat_44 : decode cX10_sayBoat 44 = .ok (.aload_n 0, 1) := by decide +kernel
theorem dX10_sayBoat_45 : decode cX10_sayBoat 45 = .ok (.bipush 40, 2) := by decide +kernel
theorem dX10_sayBoat_47 : decode cX10_sayBoat 47 = .ok (.invokevirtual 208, 3) := by decide +kernel
theorem dX10_sayBoat_50 : decode cX10_sayBoat 50 = .ok (.aload_n 0, 1) := by decide +kernel
theorem dX10_sayBoat_51 : decode cX10_sayBoat 51 = .ok (.aload_n 0, 1) := by decide +kernel
theorem dX10_sayBoat_52 : decode cX10_sayBoat 52 = .ok (.getfield 71, 3) := by decide +kernel
theorem dX10_sayBoat_55 : decode cX10_sayBoat 55 = .ok (.iload_n 2, 1) := by decide +kernel
theorem dX10_sayBoat_56 : decode cX10_sayBoat 56 = .ok (.iaload, 1) := by decide +kernel
theorem dX10_sayBoat_57 : decode cX10_sayBoat 57 = .ok (.invokevirtual 218, 3) := by decide +kernel
theorem dX10_sayBoat_60 : decode cX10_sayBoat 60 = .ok (.aload_n 0, 1) := by decide +kernel
theorem dX10_sayBoat_61 : decode cX10_sayBoat 61 = .ok (.bipush 41, 2) := by decide +kernel
theorem dX10_sayBoat_63 : decode cX10_sayBoat 63 = .ok (.invokevirtual 208, 3) := by decide +kernel
theorem dX10_sayBoat_66 : decode cX10_sayBoat 66 = .ok (.iconst 0, 1) := by decide +kernel
theorem dX10_sayBoat_67 : decode cX10_sayBoat 67 = .ok (.istore_n 3, 1) := by decide +kernel
theorem dX10_sayBoat_68 : decode cX10_sayBoat 68 = .ok (.iload_n 3, 1) := by decide +kernel
theorem dX10_sayBoat_69 : decode cX10_sayBoat 69 = .ok (.aload_n 0, 1) := by decide +kernel
theorem dX10_sayBoat_70 : decode cX10_sayBoat 70 = .ok (.getfield 99, 3) := by decide +kernel
theorem dX10_sayBoat_73 : decode cX10_sayBoat 73 = .ok (.if_icmp .ge 100, 3) := by decide +kernel
theorem dX10_sayBoat_76 : decode cX10_sayBoat 76 = .ok (.aload_n 0, 1) := by decide +kernel
theorem dX10_sayBoat_77 : decode cX10_sayBoat 77 = .ok (.iload_n 3, 1) := by decide +kernel
theorem dX10_sayBoat_78 : decode cX10_sayBoat 78 = .ok (.iload_n 2, 1) := by decide +kernel
theorem dX10_sayBoat_79 : decode cX10_sayBoat 79 = .ok (.invokevirtual 120, 3) := by decide +kernel
theorem dX10_sayBoat_82 : decode cX10_sayBoat 82 = .ok (.ifCond .eq 85, 3) := by decide +kernel
theorem dX10_sayBoat_85 : decode cX10_sayBoat 85 = .ok (.bipush 40, 2) := by decide +kernel
theorem dX10_sayBoat_87 : decode cX10_sayBoat 87 = .ok (.iload_n 3, 1) := by decide +kernel
theorem dX10_sayBoat_88 : decode cX10_sayBoat 88 = .ok (.imul, 1) := by decide +kernel
theorem dX10_sayBoat_89 : decode cX10_sayBoat 89 = .ok (.iload_n 2, 1) := by decide +kernel
theorem dX10_sayBoat_90 : decode cX10_sayBoat 90 = .ok (.iadd, 1) := by decide +kernel
theorem dX10_sayBoat_91 : decode cX10_sayBoat 91 = .ok (.istore 4, 2) := by decide +kernel
theorem dX10_sayBoat_93 : decode cX10_sayBoat 93 = .ok (.aload_n 0, 1) := by decide +kernel
theorem dX10_sayBoat_94 : decode cX10_sayBoat 94 = .ok (.bipush 32, 2) := by decide +kernel
theorem dX10_sayBoat_96 : decode cX10_sayBoat 96 = .ok (.invokevirtual 208, 3) := by decide +kernel
theorem dX10_sayBoat_99 : decode cX10_sayBoat 99 = .ok (.aload_n 0, 1) := by decide +kernel
theorem dX10_sayBoat_100 : decode cX10_sayBoat 100 = .ok (.getfield 68, 3) := by decide +kernel
theorem dX10_sayBoat_103 : decode cX10_sayBoat 103 = .ok (.iload 4, 2) := by decide +kernel
theorem dX10_sayBoat_105 : decode cX10_sayBoat 105 = .ok (.baload, 1) := by decide +kernel
theorem dX10_sayBoat_106 : decode cX10_sayBoat 106 = .ok (.ifCond .eq 9, 3) := by decide +kernel
theorem dX10_sayBoat_109 : decode cX10_sayBoat 109 = .ok (.aload_n 0, 1) := by decide +kernel
theorem dX10_sayBoat_110 : decode cX10_sayBoat 110 = .ok (.bipush 91, 2) := by decide +kernel
theorem dX10_sayBoat_112 : decode cX10_sayBoat 112 = .ok (.invokevirtual 208, 3) := by decide +kernel
theorem dX10_sayBoat_115 : decode cX10_sayBoat 115 = .ok (.aload_n 0, 1) := by decide +kernel
theorem dX10_sayBoat_116 : decode cX10_sayBoat 116 = .ok (.aload_n 0, 1) := by decide +kernel
theorem dX10_sayBoat_117 : decode cX10_sayBoat 117 = .ok (.iload_n 3, 1) := by decide +kernel
theorem dX10_sayBoat_118 : decode cX10_sayBoat 118 = .ok (.iload_n 2, 1) := by decide +kernel
theorem dX10_sayBoat_119 : decode cX10_sayBoat 119 = .ok (.invokevirtual 143, 3) := by decide +kernel
theorem dX10_sayBoat_122 : decode cX10_sayBoat 122 = .ok (.invokevirtual 218, 3) := by decide +kernel
theorem dX10_sayBoat_125 : decode cX10_sayBoat 125 = .ok (.aload_n 0, 1) := by decide +kernel
theorem dX10_sayBoat_126 : decode cX10_sayBoat 126 = .ok (.aload_n 0, 1) := by decide +kernel
theorem dX10_sayBoat_127 : decode cX10_sayBoat 127 = .ok (.getfield 53, 3) := by decide +kernel
theorem dX10_sayBoat_130 : decode cX10_sayBoat 130 = .ok (.iload 4, 2) := by decide +kernel
theorem dX10_sayBoat_132 : decode cX10_sayBoat 132 = .ok (.iaload, 1) := by decide +kernel
theorem dX10_sayBoat_133 : decode cX10_sayBoat 133 = .ok (.aload_n 0, 1) := by decide +kernel
theorem dX10_sayBoat_134 : decode cX10_sayBoat 134 = .ok (.getfield 59, 3) := by decide +kernel
theorem dX10_sayBoat_137 : decode cX10_sayBoat 137 = .ok (.iload 4, 2) := by decide +kernel
theorem dX10_sayBoat_139 : decode cX10_sayBoat 139 = .ok (.iaload, 1) := by decide +kernel
theorem dX10_sayBoat_140 : decode cX10_sayBoat 140 = .ok (.ifCond .le 7, 3) := by decide +kernel
theorem dX10_sayBoat_143 : decode cX10_sayBoat 143 = .ok (.iconst 1, 1) := by decide +kernel
theorem dX10_sayBoat_144 : decode cX10_sayBoat 144 = .ok (.goto 4, 3) := by decide +kernel
theorem dX10_sayBoat_147 : decode cX10_sayBoat 147 = .ok (.iconst 0, 1) := by decide +kernel
theorem dX10_sayBoat_148 : decode cX10_sayBoat 148 = .ok (.invokevirtual 221, 3) := by decide +kernel
theorem dX10_sayBoat_151 : decode cX10_sayBoat 151 = .ok (.aload_n 0, 1) := by decide +kernel
theorem dX10_sayBoat_152 : decode cX10_sayBoat 152 = .ok (.getfield 68, 3) := by decide +kernel
theorem dX10_sayBoat_155 : decode cX10_sayBoat 155 = .ok (.iload 4, 2) := by decide +kernel
theorem dX10_sayBoat_157 : decode cX10_sayBoat 157 = .ok (.baload, 1) := by decide +kernel
theorem dX10_sayBoat_158 : decode cX10_sayBoat 158 = .ok (.ifCond .eq 9, 3) := by decide +kernel
theorem dX10_sayBoat_161 : decode cX10_sayBoat 161 = .ok (.aload_n 0, 1) := by decide +kernel
theorem dX10_sayBoat_162 : decode cX10_sayBoat 162 = .ok (.bipush 93, 2) := by decide +kernel
theorem dX10_sayBoat_164 : decode cX10_sayBoat 164 = .ok (.invokevirtual 208, 3) := by decide +kernel
theorem dX10_sayBoat_167 : decode cX10_sayBoat 167 = .ok (.iinc 3 1, 3) := by decide +kernel
theorem dX10_sayBoat_170 : decode cX10_sayBoat 170 = .ok (.goto (-102), 3) := by decide +kernel
theorem dX10_sayBoat_173 : decode cX10_sayBoat 173 = .ok (.aload_n 0, 1) := by decide +kernel
theorem dX10_sayBoat_174 : decode cX10_sayBoat 174 = .ok (.bipush 10, 2) := by decide +kernel
theorem dX10_sayBoat_176 : decode cX10_sayBoat 176 = .ok (.invokevirtual 208, 3) := by decide +kernel
theorem dX10_sayBoat_179 : decode cX10_sayBoat 179 = .ok (.return_, 1) := by decide +kernel
theorem dX10_sheet_0 : decode cX10_sheet 0 = .ok (.aload_n 0, 1) := by decide +kernel
theorem dX10_sheet_1 : decode cX10_sheet 1 = .ok (.iconst 0, 1) := by decide +kernel
theorem dX10_sheet_2 : decode cX10_sheet 2 = .ok (.putfield 89, 3) := by decide +kernel
theorem dX10_sheet_5 : decode cX10_sheet 5 = .ok (.aload_n 0, 1) := by decide +kernel
theorem dX10_sheet_6 : decode cX10_sheet 6 = .ok (.invokevirtual 190, 3) := by decide +kernel
theorem dX10_sheet_9 : decode cX10_sheet 9 = .ok (.aload_n 0, 1) := by decide +kernel
theorem dX10_sheet_10 : decode cX10_sheet 10 = .ok (.invokevirtual 193, 3) := by decide +kernel
theorem dX10_sheet_13 : decode cX10_sheet 13 = .ok (.aload_n 0, 1) := by decide +kernel
theorem dX10_sheet_14 : decode cX10_sheet 14 = .ok (.iconst 0, 1) := by decide +kernel
theorem dX10_sheet_15 : decode cX10_sheet 15 = .ok (.putfield 205, 3) := by decide +kernel
theorem dX10_sheet_18 : decode cX10_sheet 18 = .ok (.iconst 1, 1) := by decide +kernel
theorem dX10_sheet_19 : decode cX10_sheet 19 = .ok (.istore_n 1, 1) := by decide +kernel
theorem dX10_sheet_20 : decode cX10_sheet 20 = .ok (.iload_n 1, 1) := by decide +kernel
theorem dX10_sheet_21 : decode cX10_sheet 21 = .ok (.aload_n 0, 1) := by decide +kernel
theorem dX10_sheet_22 : decode cX10_sheet 22 = .ok (.getfield 102, 3) := by decide +kernel
theorem dX10_sheet_25 : decode cX10_sheet 25 = .ok (.if_icmp .gt 19, 3) := by decide +kernel
theorem dX10_sheet_28 : decode cX10_sheet 28 = .ok (.aload_n 0, 1) := by decide +kernel
theorem dX10_sheet_29 : decode cX10_sheet 29 = .ok (.iload_n 1, 1) := by decide +kernel
theorem dX10_sheet_30 : decode cX10_sheet 30 = .ok (.aload_n 0, 1) := by decide +kernel
theorem dX10_sheet_31 : decode cX10_sheet 31 = .ok (.iload_n 1, 1) := by decide +kernel
theorem dX10_sheet_32 : decode cX10_sheet 32 = .ok (.invokevirtual 202, 3) := by decide +kernel
theorem dX10_sheet_35 : decode cX10_sheet 35 = .ok (.invokevirtual 225, 3) := by decide +kernel
theorem dX10_sheet_38 : decode cX10_sheet 38 = .ok (.iinc 1 1, 3) := by decide +kernel
theorem dX10_sheet_41 : decode cX10_sheet 41 = .ok (.goto (-21), 3) := by decide +kernel
theorem dX10_sheet_44 : decode cX10_sheet 44 = .ok (.aload_n 0, 1) := by decide +kernel
theorem dX10_sheet_45 : decode cX10_sheet 45 = .ok (.getfield 205, 3) := by decide +kernel
theorem dX10_sheet_48 : decode cX10_sheet 48 = .ok (.ireturn, 1) := by decide +kernel
theorem dX10_sheetByte_0 : decode cX10_sheetByte 0 = .ok (.aload_n 0, 1) := by decide +kernel
theorem dX10_sheetByte_1 : decode cX10_sheetByte 1 = .ok (.iload_n 1, 1) := by decide +kernel
theorem dX10_sheetByte_2 : decode cX10_sheetByte 2 = .ok (.iconst 0, 1) := by decide +kernel
theorem dX10_sheetByte_3 : decode cX10_sheetByte 3 = .ok (.aload_n 0, 1) := by decide +kernel
theorem dX10_sheetByte_4 : decode cX10_sheetByte 4 = .ok (.getfield 205, 3) := by decide +kernel
theorem dX10_sheetByte_7 : decode cX10_sheetByte 7 = .ok (.iconst 1, 1) := by decide +kernel
theorem dX10_sheetByte_8 : decode cX10_sheetByte 8 = .ok (.isub, 1) := by decide +kernel
theorem dX10_sheetByte_9 : decode cX10_sheetByte 9 = .ok (.invokestatic 172, 3) := by decide +kernel
theorem dX10_sheetByte_12 : decode cX10_sheetByte 12 = .ok (.ifCond .eq 7, 3) := by decide +kernel
theorem dX10_sheetByte_15 : decode cX10_sheetByte 15 = .ok (.iconst 0, 1) := by decide +kernel
theorem dX10_sheetByte_16 : decode cX10_sheetByte 16 = .ok (.goto 4, 3) := by decide +kernel
theorem dX10_sheetByte_19 : decode cX10_sheetByte 19 = .ok (.iconst 1, 1) := by decide +kernel
theorem dX10_sheetByte_20 : decode cX10_sheetByte 20 = .ok (.putfield 89, 3) := by decide +kernel
theorem dX10_sheetByte_23 : decode cX10_sheetByte 23 = .ok (.aload_n 0, 1) := by decide +kernel
theorem dX10_sheetByte_24 : decode cX10_sheetByte 24 = .ok (.getfield 89, 3) := by decide +kernel
theorem dX10_sheetByte_27 : decode cX10_sheetByte 27 = .ok (.ifCond .le 7, 3) := by decide +kernel
theorem dX10_sheetByte_30 : decode cX10_sheetByte 30 = .ok (.iconst 0, 1) := by decide +kernel
theorem dX10_sheetByte_31 : decode cX10_sheetByte 31 = .ok (.goto 9, 3) := by decide +kernel
theorem dX10_sheetByte_34 : decode cX10_sheetByte 34 = .ok (.aload_n 0, 1) := by decide +kernel
theorem dX10_sheetByte_35 : decode cX10_sheetByte 35 = .ok (.getfield 86, 3) := by decide +kernel
theorem dX10_sheetByte_38 : decode cX10_sheetByte 38 = .ok (.iload_n 1, 1) := by decide +kernel
theorem dX10_sheetByte_39 : decode cX10_sheetByte 39 = .ok (.iaload, 1) := by decide +kernel
theorem dX10_sheetByte_40 : decode cX10_sheetByte 40 = .ok (.ireturn, 1) := by decide +kernel
