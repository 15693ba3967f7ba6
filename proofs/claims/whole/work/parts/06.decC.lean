theorem dX4_init_0 : decode cX4_init 0 = .ok (.aload_n 0, 1) := by decide +kernel
theorem dX4_init_1 : decode cX4_init 1 = .ok (.invokespecial 1, 3) := by decide +kernel
theorem dX4_init_4 : decode cX4_init 4 = .ok (.aload_n 0, 1) := by decide +kernel
theorem dX4_init_5 : decode cX4_init 5 = .ok (.sipush 256, 3) := by decide +kernel
theorem dX4_init_8 : decode cX4_init 8 = .ok (.newarray .int, 2) := by decide +kernel
theorem dX4_init_10 : decode cX4_init 10 = .ok (.putfield 7, 3) := by decide +kernel
theorem dX4_init_13 : decode cX4_init 13 = .ok (.aload_n 0, 1) := by decide +kernel
theorem dX4_init_14 : decode cX4_init 14 = .ok (.bipush 32, 2) := by decide +kernel
theorem dX4_init_16 : decode cX4_init 16 = .ok (.newarray .int, 2) := by decide +kernel
theorem dX4_init_18 : decode cX4_init 18 = .ok (.putfield 13, 3) := by decide +kernel
theorem dX4_init_21 : decode cX4_init 21 = .ok (.aload_n 0, 1) := by decide +kernel
theorem dX4_init_22 : decode cX4_init 22 = .ok (.bipush 8, 2) := by decide +kernel
theorem dX4_init_24 : decode cX4_init 24 = .ok (.newarray .int, 2) := by decide +kernel
theorem dX4_init_26 : decode cX4_init 26 = .ok (.putfield 16, 3) := by decide +kernel
theorem dX4_init_29 : decode cX4_init 29 = .ok (.aload_n 0, 1) := by decide +kernel
theorem dX4_init_30 : decode cX4_init 30 = .ok (.bipush 64, 2) := by decide +kernel
theorem dX4_init_32 : decode cX4_init 32 = .ok (.newarray .int, 2) := by decide +kernel
theorem dX4_init_34 : decode cX4_init 34 = .ok (.putfield 19, 3) := by decide +kernel
theorem dX4_init_37 : decode cX4_init 37 = .ok (.aload_n 0, 1) := by decide +kernel
theorem dX4_init_38 : decode cX4_init 38 = .ok (.bipush 8, 2) := by decide +kernel
theorem dX4_init_40 : decode cX4_init 40 = .ok (.newarray .int, 2) := by decide +kernel
theorem dX4_init_42 : decode cX4_init 42 = .ok (.putfield 22, 3) := by decide +kernel
theorem dX4_init_45 : decode cX4_init 45 = .ok (.aload_n 0, 1) := by decide +kernel
theorem dX4_init_46 : decode cX4_init 46 = .ok (.bipush 8, 2) := by decide +kernel
theorem dX4_init_48 : decode cX4_init 48 = .ok (.newarray .int, 2) := by decide +kernel
theorem dX4_init_50 : decode cX4_init 50 = .ok (.putfield 25, 3) := by decide +kernel
theorem dX4_init_53 : decode cX4_init 53 = .ok (.aload_n 0, 1) := by decide +kernel
theorem dX4_init_54 : decode cX4_init 54 = .ok (.bipush 8, 2) := by decide +kernel
theorem dX4_init_56 : decode cX4_init 56 = .ok (.newarray .boolean, 2) := by decide +kernel
theorem dX4_init_58 : decode cX4_init 58 = .ok (.putfield 28, 3) := by decide +kernel
theorem dX4_init_61 : decode cX4_init 61 = .ok (.aload_n 0, 1) := by decide +kernel
theorem dX4_init_62 : decode cX4_init 62 = .ok (.bipush 8, 2) := by decide +kernel
theorem dX4_init_64 : decode cX4_init 64 = .ok (.newarray .boolean, 2) := by decide +kernel
theorem dX4_init_66 : decode cX4_init 66 = .ok (.putfield 32, 3) := by decide +kernel
theorem dX4_init_69 : decode cX4_init 69 = .ok (.aload_n 0, 1) := by decide +kernel
theorem dX4_init_70 : decode cX4_init 70 = .ok (.sipush 401, 3) := by decide +kernel
theorem dX4_init_73 : decode cX4_init 73 = .ok (.newarray .int, 2) := by decide +kernel
theorem dX4_init_75 : decode cX4_init 75 = .ok (.putfield 35, 3) := by decide +kernel
theorem dX4_init_78 : decode cX4_init 78 = .ok (.aload_n 0, 1) := by decide +kernel
theorem dX4_init_79 : decode cX4_init 79 = .ok (.sipush 401, 3) := by decide +kernel
theorem dX4_init_82 : decode cX4_init 82 = .ok (.newarray .int, 2) := by decide +kernel
theorem dX4_init_84 : decode cX4_init 84 = .ok (.putfield 38, 3) := by decide +kernel
theorem dX4_init_87 : decode cX4_init 87 = .ok (.aload_n 0, 1) := by decide +kernel
theorem dX4_init_88 : decode cX4_init 88 = .ok (.sipush 401, 3) := by decide +kernel
theorem dX4_init_91 : decode cX4_init 91 = .ok (.newarray .int, 2) := by decide +kernel
theorem dX4_init_93 : decode cX4_init 93 = .ok (.putfield 41, 3) := by decide +kernel
theorem dX4_init_96 : decode cX4_init 96 = .ok (.aload_n 0, 1) := by decide +kernel
theorem dX4_init_97 : decode cX4_init 97 = .ok (.sipush 401, 3) := by decide +kernel
theorem dX4_init_100 : decode cX4_init 100 = .ok (.newarray .int, 2) := by decide +kernel
theorem dX4_init_102 : decode cX4_init 102 = .ok (.putfield 44, 3) := by decide +kernel
theorem dX4_init_105 : decode cX4_init 105 = .ok (.aload_n 0, 1) := by decide +kernel
theorem dX4_init_106 : decode cX4_init 106 = .ok (.sipush 401, 3) := by decide +kernel
theorem dX4_init_109 : decode cX4_init 109 = .ok (.newarray .int, 2) := by decide +kernel
theorem dX4_init_111 : decode cX4_init 111 = .ok (.putfield 47, 3) := by decide +kernel
theorem dX4_init_114 : decode cX4_init 114 = .ok (.aload_n 0, 1) := by decide +kernel
theorem dX4_init_115 : decode cX4_init 115 = .ok (.sipush 401, 3) := by decide +kernel
theorem dX4_init_118 : decode cX4_init 118 = .ok (.newarray .int, 2) := by decide +kernel
theorem dX4_init_120 : decode cX4_init 120 = .ok (.putfield 50, 3) := by decide +kernel
theorem dX4_init_123 : decode cX4_init 123 = .ok (.aload_n 0, 1) := by decide +kernel
theorem dX4_init_124 : decode cX4_init 124 = .ok (.sipush 401, 3) := by decide +kernel
theorem dX4_init_127 : decode cX4_init 127 = .ok (.newarray .int, 2) := by decide +kernel
theorem dX4_init_129 : decode cX4_init 129 = .ok (.putfield 53, 3) := by decide +kernel
theorem dX4_init_132 : decode cX4_init 132 = .ok (.aload_n 0, 1) := by decide +kernel
theorem dX4_init_133 : decode cX4_init 133 = .ok (.sipush 401, 3) := by decide +kernel
theorem dX4_init_136 : decode cX4_init 136 = .ok (.newarray .boolean, 2) := by decide +kernel
theorem dX4_init_138 : decode cX4_init 138 = .ok (.putfield 56, 3) := by decide +kernel
theorem dX4_init_141 : decode cX4_init 141 = .ok (.aload_n 0, 1) := by decide +kernel
theorem dX4_init_142 : decode cX4_init 142 = .ok (.bipush 8, 2) := by decide +kernel
theorem dX4_init_144 : decode cX4_init 144 = .ok (.newarray .boolean, 2) := by decide +kernel
theorem dX4_init_146 : decode cX4_init 146 = .ok (.putfield 59, 3) := by decide +kernel
theorem dX4_init_149 : decode cX4_init 149 = .ok (.aload_n 0, 1) := by decide +kernel
theorem dX4_init_150 : decode cX4_init 150 = .ok (.bipush 8, 2) := by decide +kernel
theorem dX4_init_152 : decode cX4_init 152 = .ok (.newarray .boolean, 2) := by decide +kernel
theorem dX4_init_154 : decode cX4_init 154 = .ok (.putfield 62, 3) := by decide +kernel
theorem dX4_init_157 : decode cX4_init 157 = .ok (.aload_n 0, 1) := by decide +kernel
theorem dX4_init_158 : decode cX4_init 158 = .ok (.iload_n 1, 1) := by decide +kernel
theorem dX4_init_159 : decode cX4_init 159 = .ok (.iconst 1, 1) := by decide +kernel
theorem dX4_init_160 : decode cX4_init 160 = .ok (.if_icmp .ge 7, 3) := by decide +kernel
theorem dX4_init_163 : decode cX4_init 163 = .ok (.iconst 1, 1) := by decide +kernel
theorem dX4_init_164 : decode cX4_init 164 = .ok (.goto 15, 3) := by decide +kernel
theorem dX4_init_167 : decode cX4_init 167 = .ok (.iload_n 1, 1) := by decide +kernel
theorem dX4_init_168 : decode cX4_init 168 = .ok (.bipush 8, 2) := by decide +kernel
theorem dX4_init_170 : decode cX4_init 170 = .ok (.if_icmp .le 8, 3) := by decide +kernel
theorem dX4_init_173 : decode cX4_init 173 = .ok (.bipush 8, 2) := by decide +kernel
theorem dX4_init_175 : decode cX4_init 175 = .ok (.goto 4, 3) := by decide +kernel
theorem dX4_init_178 : decode cX4_init 178 = .ok (.iload_n 1, 1) := by decide +kernel
theorem dX4_init_179 : decode cX4_init 179 = .ok (.putfield 65, 3) := by decide +kernel
theorem dX4_init_182 : decode cX4_init 182 = .ok (.iconst 0, 1) := by decide +kernel
theorem dX4_init_183 : decode cX4_init 183 = .ok (.istore_n 2, 1) := by decide +kernel
theorem dX4_init_184 : decode cX4_init 184 = .ok (.iload_n 2, 1) := by decide +kernel
theorem dX4_init_185 : decode cX4_init 185 = .ok (.bipush 8, 2) := by decide +kernel
theorem dX4_init_187 : decode cX4_init 187 = .ok (.if_icmp .ge 16, 3) := by decide +kernel
theorem dX4_init_190 : decode cX4_init 190 = .ok (.aload_n 0, 1) := by decide +kernel
theorem dX4_init_191 : decode cX4_init 191 = .ok (.getfield 16, 3) := by decide +kernel
theorem dX4_init_194 : decode cX4_init 194 = .ok (.iload_n 2, 1) := by decide +kernel
theorem dX4_init_195 : decode cX4_init 195 = .ok (.iconst (-1), 1) := by decide +kernel
theorem dX4_init_196 : decode cX4_init 196 = .ok (.iastore, 1) := by decide +kernel
theorem dX4_init_197 : decode cX4_init 197 = .ok (.iinc 2 1, 3) := by decide +kernel
theorem dX4_init_200 : decode cX4_init 200 = .ok (.goto (-16), 3) := by decide +kernel
theorem dX4_init_203 : decode cX4_init 203 = .ok (.return_, 1) := by decide +kernel
theorem dX4_thrown_0 : decode cX4_thrown 0 = .ok (.aload_n 0, 1) := by decide +kernel
theorem dX4_thrown_1 : decode cX4_thrown 1 = .ok (.getfield 69, 3) := by decide +kernel
theorem dX4_thrown_4 : decode cX4_thrown 4 = .ok (.ireturn, 1) := by decide +kernel
theorem dX4_refused_0 : decode cX4_refused 0 = .ok (.aload_n 0, 1) := by decide +kernel
theorem dX4_refused_1 : decode cX4_refused 1 = .ok (.iload_n 1, 1) := by decide +kernel
theorem dX4_refused_2 : decode cX4_refused 2 = .ok (.putfield 69, 3) := by decide +kernel
theorem dX4_refused_5 : decode cX4_refused 5 = .ok (.iload_n 1, 1) := by decide +kernel
theorem dX4_refused_6 : decode cX4_refused 6 = .ok (.ifCond .le 7, 3) := by decide +kernel
theorem dX4_refused_9 : decode cX4_refused 9 = .ok (.iconst 1, 1) := by decide +kernel
theorem dX4_refused_10 : decode cX4_refused 10 = .ok (.goto 4, 3) := by decide +kernel
theorem dX4_refused_13 : decode cX4_refused 13 = .ok (.iconst 0, 1) := by decide +kernel
theorem dX4_refused_14 : decode cX4_refused 14 = .ok (.ireturn, 1) := by decide +kernel
theorem dX4_isIn_0 : decode cX4_isIn 0 = .ok (.iload_n 0, 1) := by decide +kernel
theorem dX4_isIn_1 : decode cX4_isIn 1 = .ok (.iload_n 1, 1) := by decide +kernel
theorem dX4_isIn_2 : decode cX4_isIn 2 = .ok (.if_icmp .lt 12, 3) := by decide +kernel
theorem dX4_isIn_5 : decode cX4_isIn 5 = .ok (.iload_n 0, 1) := by decide +kernel
theorem dX4_isIn_6 : decode cX4_isIn 6 = .ok (.iload_n 2, 1) := by decide +kernel
theorem dX4_isIn_7 : decode cX4_isIn 7 = .ok (.if_icmp .gt 7, 3) := by decide +kernel
theorem dX4_isIn_10 : decode cX4_isIn 10 = .ok (.iconst 1, 1) := by decide +kernel
theorem dX4_isIn_11 : decode cX4_isIn 11 = .ok (.goto 4, 3) := by decide +kernel
theorem dX4_isIn_14 : decode cX4_isIn 14 = .ok (.iconst 0, 1) := by decide +kernel
theorem dX4_isIn_15 : decode cX4_isIn 15 = .ok (.ireturn, 1) := by decide +kernel
theorem dX4_frameOf_0 : decode cX4_frameOf 0 = .ok (.iconst 0, 1) := by decide +kernel
theorem dX4_frameOf_1 : decode cX4_frameOf 1 = .ok (.istore_n 2, 1) := by decide +kernel
theorem dX4_frameOf_2 : decode cX4_frameOf 2 = .ok (.iload_n 2, 1) := by decide +kernel
theorem dX4_frameOf_3 : decode cX4_frameOf 3 = .ok (.aload_n 0, 1) := by decide +kernel
theorem dX4_frameOf_4 : decode cX4_frameOf 4 = .ok (.getfield 65, 3) := by decide +kernel
theorem dX4_frameOf_7 : decode cX4_frameOf 7 = .ok (.if_icmp .ge 21, 3) := by decide +kernel
theorem dX4_frameOf_10 : decode cX4_frameOf 10 = .ok (.aload_n 0, 1) := by decide +kernel
theorem dX4_frameOf_11 : decode cX4_frameOf 11 = .ok (.getfield 16, 3) := by decide +kernel
theorem dX4_frameOf_14 : decode cX4_frameOf 14 = .ok (.iload_n 2, 1) := by decide +kernel
theorem dX4_frameOf_15 : decode cX4_frameOf 15 = .ok (.iaload, 1) := by decide +kernel
theorem dX4_frameOf_16 : decode cX4_frameOf 16 = .ok (.iload_n 1, 1) := by decide +kernel
theorem dX4_frameOf_17 : decode cX4_frameOf 17 = .ok (.if_icmp .ne 5, 3) := by decide +kernel
theorem dX4_frameOf_20 : decode cX4_frameOf 20 = .ok (.iload_n 2, 1) := by decide +kernel
theorem dX4_frameOf_21 : decode cX4_frameOf 21 = .ok (.ireturn, 1) := by decide +kernel
theorem dX4_frameOf_22 : decode cX4_frameOf 22 = .ok (.iinc 2 1, 3) := by decide +kernel
theorem dX4_frameOf_25 : decode cX4_frameOf 25 = .ok (.goto (-23), 3) := by decide +kernel
theorem dX4_frameOf_28 : decode cX4_frameOf 28 = .ok (.iconst (-1), 1) := by decide +kernel
theorem dX4_frameOf_29 : decode cX4_frameOf 29 = .ok (.ireturn, 1) := by decide +kernel
theorem dX4_mayGo_0 : decode cX4_mayGo 0 = .ok (.aload_n 0, 1) := by decide +kernel
theorem dX4_mayGo_1 : decode cX4_mayGo 1 = .ok (.getfield 25, 3) := by decide +kernel
theorem dX4_mayGo_4 : decode cX4_mayGo 4 = .ok (.iload_n 1, 1) := by decide +kernel
theorem dX4_mayGo_5 : decode cX4_mayGo 5 = .ok (.iaload, 1) := by decide +kernel
theorem dX4_mayGo_6 : decode cX4_mayGo 6 = .ok (.ifCond .ne 29, 3) := by decide +kernel
theorem dX4_mayGo_9 : decode cX4_mayGo 9 = .ok (.aload_n 0, 1) := by decide +kernel
theorem dX4_mayGo_10 : decode cX4_mayGo 10 = .ok (.getfield 28, 3) := by decide +kernel
theorem dX4_mayGo_13 : decode cX4_mayGo 13 = .ok (.iload_n 1, 1) := by decide +kernel
theorem dX4_mayGo_14 : decode cX4_mayGo 14 = .ok (.baload, 1) := by decide +kernel
theorem dX4_mayGo_15 : decode cX4_mayGo 15 = .ok (.ifCond .eq 16, 3) := by decide +kernel
theorem dX4_mayGo_18 : decode cX4_mayGo 18 = .ok (.aload_n 0, 1) := by decide +kernel
theorem dX4_mayGo_19 : decode cX4_mayGo 19 = .ok (.getfield 22, 3) := by decide +kernel
theorem dX4_mayGo_22 : decode cX4_mayGo 22 = .ok (.iload_n 1, 1) := by decide +kernel
theorem dX4_mayGo_23 : decode cX4_mayGo 23 = .ok (.iaload, 1) := by decide +kernel
theorem dX4_mayGo_24 : decode cX4_mayGo 24 = .ok (.aload_n 0, 1) := by decide +kernel
theorem dX4_mayGo_25 : decode cX4_mayGo 25 = .ok (.getfield 72, 3) := by decide +kernel
theorem dX4_mayGo_28 : decode cX4_mayGo 28 = .ok (.if_icmp .gt 7, 3) := by decide +kernel
theorem dX4_mayGo_31 : decode cX4_mayGo 31 = .ok (.iconst 1, 1) := by decide +kernel
theorem dX4_mayGo_32 : decode cX4_mayGo 32 = .ok (.goto 4, 3) := by decide +kernel
theorem dX4_mayGo_35 : decode cX4_mayGo 35 = .ok (.iconst 0, 1) := by decide +kernel
theorem dX4_mayGo_36 : decode cX4_mayGo 36 = .ok (.ireturn, 1) := by decide +kernel
theorem dX4_write_0 : decode cX4_write 0 = .ok (.iconst 0, 1) := by decide +kernel
theorem dX4_write_1 : decode cX4_write 1 = .ok (.istore_n 2, 1) := by decide +kernel
theorem dX4_write_2 : decode cX4_write 2 = .ok (.iload_n 2, 1) := by decide +kernel
theorem dX4_write_3 : decode cX4_write 3 = .ok (.bipush 8, 2) := by decide +kernel
theorem dX4_write_5 : decode cX4_write 5 = .ok (.if_icmp .ge 36, 3) := by decide +kernel
theorem dX4_write_8 : decode cX4_write 8 = .ok (.aload_n 0, 1) := by decide +kernel
theorem dX4_write_9 : decode cX4_write 9 = .ok (.getfield 7, 3) := by decide +kernel
theorem dX4_write_12 : decode cX4_write 12 = .ok (.bipush 8, 2) := by decide +kernel
theorem dX4_write_14 : decode cX4_write 14 = .ok (.aload_n 0, 1) := by decide +kernel
theorem dX4_write_15 : decode cX4_write 15 = .ok (.getfield 16, 3) := by decide +kernel
theorem dX4_write_18 : decode cX4_write 18 = .ok (.iload_n 1, 1) := by decide +kernel
theorem dX4_write_19 : decode cX4_write 19 = .ok (.iaload, 1) := by decide +kernel
theorem dX4_write_20 : decode cX4_write 20 = .ok (.imul, 1) := by decide +kernel
theorem dX4_write_21 : decode cX4_write 21 = .ok (.iload_n 2, 1) := by decide +kernel
theorem dX4_write_22 : decode cX4_write 22 = .ok (.iadd, 1) := by decide +kernel
theorem dX4_write_23 : decode cX4_write 23 = .ok (.aload_n 0, 1) := by decide +kernel
theorem dX4_write_24 : decode cX4_write 24 = .ok (.getfield 19, 3) := by decide +kernel
theorem dX4_write_27 : decode cX4_write 27 = .ok (.bipush 8, 2) := by decide +kernel
theorem dX4_write_29 : decode cX4_write 29 = .ok (.iload_n 1, 1) := by decide +kernel
theorem dX4_write_30 : decode cX4_write 30 = .ok (.imul, 1) := by decide +kernel
theorem dX4_write_31 : decode cX4_write 31 = .ok (.iload_n 2, 1) := by decide +kernel
theorem dX4_write_32 : decode cX4_write 32 = .ok (.iadd, 1) := by decide +kernel
theorem dX4_write_33 : decode cX4_write 33 = .ok (.iaload, 1) := by decide +kernel
theorem dX4_write_34 : decode cX4_write 34 = .ok (.iastore, 1) := by decide +kernel
theorem dX4_write_35 : decode cX4_write 35 = .ok (.iinc 2 1, 3) := by decide +kernel
theorem dX4_write_38 : decode cX4_write 38 = .ok (.goto (-36), 3) := by decide +kernel
theorem dX4_write_41 : decode cX4_write 41 = .ok (.aload_n 0, 1) := by decide +kernel
theorem dX4_write_42 : decode cX4_write 42 = .ok (.getfield 13, 3) := by decide +kernel
theorem dX4_write_45 : decode cX4_write 45 = .ok (.aload_n 0, 1) := by decide +kernel
theorem dX4_write_46 : decode cX4_write 46 = .ok (.getfield 16, 3) := by decide +kernel
theorem dX4_write_49 : decode cX4_write 49 = .ok (.iload_n 1, 1) := by decide +kernel
theorem dX4_write_50 : decode cX4_write 50 = .ok (.iaload, 1) := by decide +kernel
theorem dX4_write_51 : decode cX4_write 51 = .ok (.aload_n 0, 1) := by decide +kernel
theorem dX4_write_52 : decode cX4_write 52 = .ok (.getfield 22, 3) := by decide +kernel
theorem dX4_write_55 : decode cX4_write 55 = .ok (.iload_n 1, 1) := by decide +kernel
theorem dX4_write_56 : decode cX4_write 56 = .ok (.iaload, 1) := by decide +kernel
theorem dX4_write_57 : decode cX4_write 57 = .ok (.iastore, 1) := by decide +kernel
theorem dX4_write_58 : decode cX4_write 58 = .ok (.aload_n 0, 1) := by decide +kernel
theorem dX4_write_59 : decode cX4_write 59 = .ok (.getfield 28, 3) := by decide +kernel
theorem dX4_write_62 : decode cX4_write 62 = .ok (.iload_n 1, 1) := by decide +kernel
theorem dX4_write_63 : decode cX4_write 63 = .ok (.iconst 0, 1) := by decide +kernel
theorem dX4_write_64 : decode cX4_write 64 = .ok (.bastore, 1) := by decide +kernel
theorem dX4_write_65 : decode cX4_write 65 = .ok (.aload_n 0, 1) := by decide +kernel
theorem dX4_write_66 : decode cX4_write 66 = .ok (.dup, 1) := by decide +kernel
theorem dX4_write_67 : decode cX4_write 67 = .ok (.getfield 75, 3) := by decide +kernel
theorem dX4_write_70 : decode cX4_write 70 = .ok (.iconst 1, 1) := by decide +kernel
theorem dX4_write_71 : decode cX4_write 71 = .ok (.iadd, 1) := by decide +kernel
theorem dX4_write_72 : decode cX4_write 72 = .ok (.putfield 75, 3) := by decide +kernel
theorem dX4_write_75 : decode cX4_write 75 = .ok (.return_, 1) := by decide +kernel
theorem dX4_room_0 : decode cX4_room 0 = .ok (.iconst 0, 1) := by decide +kernel
theorem dX4_room_1 : decode cX4_room 1 = .ok (.istore_n 1, 1) := by decide +kernel
theorem dX4_room_2 : decode cX4_room 2 = .ok (.iconst 0, 1) := by decide +kernel
theorem dX4_room_3 : decode cX4_room 3 = .ok (.istore_n 2, 1) := by decide +kernel
theorem dX4_room_4 : decode cX4_room 4 = .ok (.iload_n 2, 1) := by decide +kernel
theorem dX4_room_5 : decode cX4_room 5 = .ok (.aload_n 0, 1) := by decide +kernel
theorem dX4_room_6 : decode cX4_room 6 = .ok (.getfield 65, 3) := by decide +kernel
theorem dX4_room_9 : decode cX4_room 9 = .ok (.if_icmp .ge 38, 3) := by decide +kernel
theorem dX4_room_12 : decode cX4_room 12 = .ok (.aload_n 0, 1) := by decide +kernel
theorem dX4_room_13 : decode cX4_room 13 = .ok (.getfield 16, 3) := by decide +kernel
theorem dX4_room_16 : decode cX4_room 16 = .ok (.iload_n 2, 1) := by decide +kernel
theorem dX4_room_17 : decode cX4_room 17 = .ok (.iaload, 1) := by decide +kernel
theorem dX4_room_18 : decode cX4_room 18 = .ok (.ifCond .ge 5, 3) := by decide +kernel
theorem dX4_room_21 : decode cX4_room 21 = .ok (.iload_n 2, 1) := by decide +kernel
theorem dX4_room_22 : decode cX4_room 22 = .ok (.ireturn, 1) := by decide +kernel
theorem dX4_room_23 : decode cX4_room 23 = .ok (.iload_n 1, 1) := by decide +kernel
theorem dX4_room_24 : decode cX4_room 24 = .ok (.ifCond .ne 11, 3) := by decide +kernel
theorem dX4_room_27 : decode cX4_room 27 = .ok (.aload_n 0, 1) := by decide +kernel
theorem dX4_room_28 : decode cX4_room 28 = .ok (.iload_n 2, 1) := by decide +kernel
theorem dX4_room_29 : decode cX4_room 29 = .ok (.invokevirtual 78, 3) := by decide +kernel
theorem dX4_room_32 : decode cX4_room 32 = .ok (.ifCond .eq 7, 3) := by decide +kernel
theorem dX4_room_35 : decode cX4_room 35 = .ok (.iconst 1, 1) := by decide +kernel
theorem dX4_room_36 : decode cX4_room 36 = .ok (.goto 4, 3) := by decide +kernel
theorem dX4_room_39 : decode cX4_room 39 = .ok (.iconst 0, 1) := by decide +kernel
theorem dX4_room_40 : decode cX4_room 40 = .ok (.istore_n 1, 1) := by decide +kernel
theorem dX4_room_41 : decode cX4_room 41 = .ok (.iinc 2 1, 3) := by decide +kernel
theorem dX4_room_44 : decode cX4_room 44 = .ok (.goto (-40), 3) := by decide +kernel
theorem dX4_room_47 : decode cX4_room 47 = .ok (.iload_n 1, 1) := by decide +kernel
theorem dX4_room_48 : decode cX4_room 48 = .ok (.ifCond .ne 5, 3) := by decide +kernel
theorem dX4_room_51 : decode cX4_room 51 = .ok (.iconst (-1), 1) := by decide +kernel
theorem dX4_room_52 : decode cX4_room 52 = .ok (.ireturn, 1) := by decide +kernel
theorem dX4_room_53 : decode cX4_room 53 = .ok (.aload_n 0, 1) := by decide +kernel
theorem dX4_room_54 : decode cX4_room 54 = .ok (.aload_n 0, 1) := by decide +kernel
theorem dX4_room_55 : decode cX4_room 55 = .ok (.getfield 82, 3) := by decide +kernel
theorem dX4_room_58 : decode cX4_room 58 = .ok (.invokevirtual 78, 3) := by decide +kernel
theorem dX4_room_61 : decode cX4_room 61 = .ok (.ifCond .eq 15, 3) := by decide +kernel
theorem dX4_room_64 : decode cX4_room 64 = .ok (.aload_n 0, 1) := by decide +kernel
theorem dX4_room_65 : decode cX4_room 65 = .ok (.getfield 32, 3) := by decide +kernel
theorem dX4_room_68 : decode cX4_room 68 = .ok (.aload_n 0, 1) := by decide +kernel
theorem dX4_room_69 : decode cX4_room 69 = .ok (.getfield 82, 3) := by decide +kernel
theorem dX4_room_72 : decode cX4_room 72 = .ok (.baload, 1) := by decide +kernel
theorem dX4_room_73 : decode cX4_room 73 = .ok (.ifCond .eq 42, 3) := by decide +kernel
theorem dX4_room_76 : decode cX4_room 76 = .ok (.aload_n 0, 1) := by decide +kernel
theorem dX4_room_77 : decode cX4_room 77 = .ok (.aload_n 0, 1) := by decide +kernel
theorem dX4_room_78 : decode cX4_room 78 = .ok (.getfield 82, 3) := by decide +kernel
theorem dX4_room_81 : decode cX4_room 81 = .ok (.invokevirtual 78, 3) := by decide +kernel
theorem dX4_room_84 : decode cX4_room 84 = .ok (.ifCond .eq 13, 3) := by decide +kernel
theorem dX4_room_87 : decode cX4_room 87 = .ok (.aload_n 0, 1) := by decide +kernel
theorem dX4_room_88 : decode cX4_room 88 = .ok (.getfield 32, 3) := by decide +kernel
theorem dX4_room_91 : decode cX4_room 91 = .ok (.aload_n 0, 1) := by decide +kernel
theorem dX4_room_92 : decode cX4_room 92 = .ok (.getfield 82, 3) := by decide +kernel
theorem dX4_room_95 : decode cX4_room 95 = .ok (.iconst 0, 1) := by decide +kernel
theorem dX4_room_96 : decode cX4_room 96 = .ok (.bastore, 1) := by decide +kernel
theorem dX4_room_97 : decode cX4_room 97 = .ok (.aload_n 0, 1) := by decide +kernel
theorem dX4_room_98 : decode cX4_room 98 = .ok (.aload_n 0, 1) := by decide +kernel
theorem dX4_room_99 : decode cX4_room 99 = .ok (.getfield 82, 3) := by decide +kernel
theorem dX4_room_102 : decode cX4_room 102 = .ok (.iconst 1, 1) := by decide +kernel
theorem dX4_room_103 : decode cX4_room 103 = .ok (.iadd, 1) := by decide +kernel
theorem dX4_room_104 : decode cX4_room 104 = .ok (.aload_n 0, 1) := by decide +kernel
theorem dX4_room_105 : decode cX4_room 105 = .ok (.getfield 65, 3) := by decide +kernel
theorem dX4_room_108 : decode cX4_room 108 = .ok (.irem, 1) := by decide +kernel
theorem dX4_room_109 : decode cX4_room 109 = .ok (.putfield 82, 3) := by decide +kernel
theorem dX4_room_112 : decode cX4_room 112 = .ok (.goto (-59), 3) := by decide +kernel
theorem dX4_room_115 : decode cX4_room 115 = .ok (.aload_n 0, 1) := by decide +kernel
theorem dX4_room_116 : decode cX4_room 116 = .ok (.getfield 82, 3) := by decide +kernel
theorem dX4_room_119 : decode cX4_room 119 = .ok (.istore_n 2, 1) := by decide +kernel
theorem dX4_room_120 : decode cX4_room 120 = .ok (.aload_n 0, 1) := by decide +kernel
theorem dX4_room_121 : decode cX4_room 121 = .ok (.aload_n 0, 1) := by decide +kernel
theorem dX4_room_122 : decode cX4_room 122 = .ok (.getfield 82, 3) := by decide +kernel
theorem dX4_room_125 : decode cX4_room 125 = .ok (.iconst 1, 1) := by decide +kernel
theorem dX4_room_126 : decode cX4_room 126 = .ok (.iadd, 1) := by decide +kernel
theorem dX4_room_127 : decode cX4_room 127 = .ok (.aload_n 0, 1) := by decide +kernel
theorem dX4_room_128 : decode cX4_room 128 = .ok (.getfield 65, 3) := by decide +kernel
theorem dX4_room_131 : decode cX4_room 131 = .ok (.irem, 1) := by decide +kernel
theorem dX4_room_132 : decode cX4_room 132 = .ok (.putfield 82, 3) := by decide +kernel
theorem dX4_room_135 : decode cX4_room 135 = .ok (.aload_n 0, 1) := by decide +kernel
theorem dX4_room_136 : decode cX4_room 136 = .ok (.getfield 28, 3) := by decide +kernel
theorem dX4_room_139 : decode cX4_room 139 = .ok (.iload_n 2, 1) := by decide +kernel
theorem dX4_room_140 : decode cX4_room 140 = .ok (.baload, 1) := by decide +kernel
theorem dX4_room_141 : decode cX4_room 141 = .ok (.ifCond .eq 8, 3) := by decide +kernel
theorem dX4_room_144 : decode cX4_room 144 = .ok (.aload_n 0, 1) := by decide +kernel
theorem dX4_room_145 : decode cX4_room 145 = .ok (.iload_n 2, 1) := by decide +kernel
theorem dX4_room_146 : decode cX4_room 146 = .ok (.invokevirtual 85, 3) := by decide +kernel
theorem dX4_room_149 : decode cX4_room 149 = .ok (.iload_n 2, 1) := by decide +kernel
theorem dX4_room_150 : decode cX4_room 150 = .ok (.ireturn, 1) := by decide +kernel
theorem dX4_bring_0 : decode cX4_bring 0 = .ok (.aload_n 0, 1) := by decide +kernel
theorem dX4_bring_1 : decode cX4_bring 1 = .ok (.iload_n 1, 1) := by decide +kernel
theorem dX4_bring_2 : decode cX4_bring 2 = .ok (.invokevirtual 89, 3) := by decide +kernel
theorem dX4_bring_5 : decode cX4_bring 5 = .ok (.istore_n 2, 1) := by decide +kernel
theorem dX4_bring_6 : decode cX4_bring 6 = .ok (.iload_n 2, 1) := by decide +kernel
theorem dX4_bring_7 : decode cX4_bring 7 = .ok (.ifCond .ge 93, 3) := by decide +kernel
theorem dX4_bring_10 : decode cX4_bring 10 = .ok (.aload_n 0, 1) := by decide +kernel
theorem dX4_bring_11 : decode cX4_bring 11 = .ok (.invokevirtual 93, 3) := by decide +kernel
theorem dX4_bring_14 : decode cX4_bring 14 = .ok (.istore_n 2, 1) := by decide +kernel
theorem dX4_bring_15 : decode cX4_bring 15 = .ok (.iload_n 2, 1) := by decide +kernel
theorem dX4_bring_16 : decode cX4_bring 16 = .ok (.ifCond .ge 5, 3) := by decide +kernel
theorem dX4_bring_19 : decode cX4_bring 19 = .ok (.iconst (-1), 1) := by decide +kernel
theorem dX4_bring_20 : decode cX4_bring 20 = .ok (.ireturn, 1) := by decide +kernel
theorem dX4_bring_21 : decode cX4_bring 21 = .ok (.aload_n 0, 1) := by decide +kernel
theorem dX4_bring_22 : decode cX4_bring 22 = .ok (.getfield 16, 3) := by decide +kernel
theorem dX4_bring_25 : decode cX4_bring 25 = .ok (.iload_n 2, 1) := by decide +kernel
theorem dX4_bring_26 : decode cX4_bring 26 = .ok (.iload_n 1, 1) := by decide +kernel
theorem dX4_bring_27 : decode cX4_bring 27 = .ok (.iastore, 1) := by decide +kernel
theorem dX4_bring_28 : decode cX4_bring 28 = .ok (.aload_n 0, 1) := by decide +kernel
theorem dX4_bring_29 : decode cX4_bring 29 = .ok (.getfield 25, 3) := by decide +kernel
theorem dX4_bring_32 : decode cX4_bring 32 = .ok (.iload_n 2, 1) := by decide +kernel
theorem dX4_bring_33 : decode cX4_bring 33 = .ok (.iconst 0, 1) := by decide +kernel
theorem dX4_bring_34 : decode cX4_bring 34 = .ok (.iastore, 1) := by decide +kernel
theorem dX4_bring_35 : decode cX4_bring 35 = .ok (.aload_n 0, 1) := by decide +kernel
theorem dX4_bring_36 : decode cX4_bring 36 = .ok (.getfield 28, 3) := by decide +kernel
theorem dX4_bring_39 : decode cX4_bring 39 = .ok (.iload_n 2, 1) := by decide +kernel
theorem dX4_bring_40 : decode cX4_bring 40 = .ok (.iconst 0, 1) := by decide +kernel
theorem dX4_bring_41 : decode cX4_bring 41 = .ok (.bastore, 1) := by decide +kernel
theorem dX4_bring_42 : decode cX4_bring 42 = .ok (.aload_n 0, 1) := by decide +kernel
theorem dX4_bring_43 : decode cX4_bring 43 = .ok (.getfield 22, 3) := by decide +kernel
theorem dX4_bring_46 : decode cX4_bring 46 = .ok (.iload_n 2, 1) := by decide +kernel
theorem dX4_bring_47 : decode cX4_bring 47 = .ok (.aload_n 0, 1) := by decide +kernel
theorem dX4_bring_48 : decode cX4_bring 48 = .ok (.getfield 13, 3) := by decide +kernel
theorem dX4_bring_51 : decode cX4_bring 51 = .ok (.iload_n 1, 1) := by decide +kernel
theorem dX4_bring_52 : decode cX4_bring 52 = .ok (.iaload, 1) := by decide +kernel
theorem dX4_bring_53 : decode cX4_bring 53 = .ok (.iastore, 1) := by decide +kernel
theorem dX4_bring_54 : decode cX4_bring 54 = .ok (.iconst 0, 1) := by decide +kernel
theorem dX4_bring_55 : decode cX4_bring 55 = .ok (.istore_n 3, 1) := by decide +kernel
theorem dX4_bring_56 : decode cX4_bring 56 = .ok (.iload_n 3, 1) := by decide +kernel
theorem dX4_bring_57 : decode cX4_bring 57 = .ok (.bipush 8, 2) := by decide +kernel
theorem dX4_bring_59 : decode cX4_bring 59 = .ok (.if_icmp .ge 31, 3) := by decide +kernel
theorem dX4_bring_62 : decode cX4_bring 62 = .ok (.aload_n 0, 1) := by decide +kernel
theorem dX4_bring_63 : decode cX4_bring 63 = .ok (.getfield 19, 3) := by decide +kernel
theorem dX4_bring_66 : decode cX4_bring 66 = .ok (.bipush 8, 2) := by decide +kernel
theorem dX4_bring_68 : decode cX4_bring 68 = .ok (.iload_n 2, 1) := by decide +kernel
theorem dX4_bring_69 : decode cX4_bring 69 = .ok (.imul, 1) := by decide +kernel
theorem dX4_bring_70 : decode cX4_bring 70 = .ok (.iload_n 3, 1) := by decide +kernel
theorem dX4_bring_71 : decode cX4_bring 71 = .ok (.iadd, 1) := by decide +kernel
theorem dX4_bring_72 : decode cX4_bring 72 = .ok (.aload_n 0, 1) := by decide +kernel
theorem dX4_bring_73 : decode cX4_bring 73 = .ok (.getfield 7, 3) := by decide +kernel
theorem dX4_bring_76 : decode cX4_bring 76 = .ok (.bipush 8, 2) := by decide +kernel
theorem dX4_bring_78 : decode cX4_bring 78 = .ok (.iload_n 1, 1) := by decide +kernel
theorem dX4_bring_79 : decode cX4_bring 79 = .ok (.imul, 1) := by decide +kernel
theorem dX4_bring_80 : decode cX4_bring 80 = .ok (.iload_n 3, 1) := by decide +kernel
theorem dX4_bring_81 : decode cX4_bring 81 = .ok (.iadd, 1) := by decide +kernel
theorem dX4_bring_82 : decode cX4_bring 82 = .ok (.iaload, 1) := by decide +kernel
theorem dX4_bring_83 : decode cX4_bring 83 = .ok (.iastore, 1) := by decide +kernel
theorem dX4_bring_84 : decode cX4_bring 84 = .ok (.iinc 3 1, 3) := by decide +kernel
theorem dX4_bring_87 : decode cX4_bring 87 = .ok (.goto (-31), 3) := by decide +kernel
theorem dX4_bring_90 : decode cX4_bring 90 = .ok (.aload_n 0, 1) := by decide +kernel
theorem dX4_bring_91 : decode cX4_bring 91 = .ok (.dup, 1) := by decide +kernel
theorem dX4_bring_92 : decode cX4_bring 92 = .ok (.getfield 97, 3) := by decide +kernel
theorem dX4_bring_95 : decode cX4_bring 95 = .ok (.iconst 1, 1) := by decide +kernel
theorem dX4_bring_96 : decode cX4_bring 96 = .ok (.iadd, 1) := by decide +kernel
theorem dX4_bring_97 : decode cX4_bring 97 = .ok (.putfield 97, 3) := by decide +kernel
theorem dX4_bring_100 : decode cX4_bring 100 = .ok (.aload_n 0, 1) := by decide +kernel
theorem dX4_bring_101 : decode cX4_bring 101 = .ok (.getfield 32, 3) := by decide +kernel
theorem dX4_bring_104 : decode cX4_bring 104 = .ok (.iload_n 2, 1) := by decide +kernel
theorem dX4_bring_105 : decode cX4_bring 105 = .ok (.iconst 1, 1) := by decide +kernel
theorem dX4_bring_106 : decode cX4_bring 106 = .ok (.bastore, 1) := by decide +kernel
theorem dX4_bring_107 : decode cX4_bring 107 = .ok (.iload_n 2, 1) := by decide +kernel
theorem dX4_bring_108 : decode cX4_bring 108 = .ok (.ireturn, 1) := by decide +kernel
theorem dX4_fetch_0 : decode cX4_fetch 0 = .ok (.aload_n 0, 1) := by decide +kernel
theorem dX4_fetch_1 : decode cX4_fetch 1 = .ok (.iload_n 1, 1) := by decide +kernel
theorem dX4_fetch_2 : decode cX4_fetch 2 = .ok (.iconst 0, 1) := by decide +kernel
theorem dX4_fetch_3 : decode cX4_fetch 3 = .ok (.bipush 31, 2) := by decide +kernel
theorem dX4_fetch_5 : decode cX4_fetch 5 = .ok (.invokestatic 100, 3) := by decide +kernel
theorem dX4_fetch_8 : decode cX4_fetch 8 = .ok (.ifCond .eq 7, 3) := by decide +kernel
theorem dX4_fetch_11 : decode cX4_fetch 11 = .ok (.iconst 0, 1) := by decide +kernel
theorem dX4_fetch_12 : decode cX4_fetch 12 = .ok (.goto 4, 3) := by decide +kernel
theorem dX4_fetch_15 : decode cX4_fetch 15 = .ok (.iconst 1, 1) := by decide +kernel
theorem dX4_fetch_16 : decode cX4_fetch 16 = .ok (.invokevirtual 104, 3) := by decide +kernel
theorem dX4_fetch_19 : decode cX4_fetch 19 = .ok (.ifCond .eq 5, 3) := by decide +kernel
theorem dX4_fetch_22 : decode cX4_fetch 22 = .ok (.iconst 0, 1) := by decide +kernel
theorem dX4_fetch_23 : decode cX4_fetch 23 = .ok (.ireturn, 1) := by decide +kernel
theorem dX4_fetch_24 : decode cX4_fetch 24 = .ok (.aload_n 0, 1) := by decide +kernel
theorem dX4_fetch_25 : decode cX4_fetch 25 = .ok (.iload_n 1, 1) := by decide +kernel
theorem dX4_fetch_26 : decode cX4_fetch 26 = .ok (.invokevirtual 107, 3) := by decide +kernel
theorem dX4_fetch_29 : decode cX4_fetch 29 = .ok (.istore_n 2, 1) := by decide +kernel
theorem dX4_fetch_30 : decode cX4_fetch 30 = .ok (.iload_n 2, 1) := by decide +kernel
theorem dX4_fetch_31 : decode cX4_fetch 31 = .ok (.ifCond .ge 6, 3) := by decide +kernel
theorem dX4_fetch_34 : decode cX4_fetch 34 = .ok (.bipush (-2), 2) := by decide +kernel
theorem dX4_fetch_36 : decode cX4_fetch 36 = .ok (.ireturn, 1) := by decide +kernel
theorem dX4_fetch_37 : decode cX4_fetch 37 = .ok (.aload_n 0, 1) := by decide +kernel
theorem dX4_fetch_38 : decode cX4_fetch 38 = .ok (.getfield 25, 3) := by decide +kernel
theorem dX4_fetch_41 : decode cX4_fetch 41 = .ok (.iload_n 2, 1) := by decide +kernel
theorem dX4_fetch_42 : decode cX4_fetch 42 = .ok (.dup2, 1) := by decide +kernel
theorem dX4_fetch_43 : decode cX4_fetch 43 = .ok (.iaload, 1) := by decide +kernel
theorem dX4_fetch_44 : decode cX4_fetch 44 = .ok (.iconst 1, 1) := by decide +kernel
theorem dX4_fetch_45 : decode cX4_fetch 45 = .ok (.iadd, 1) := by decide +kernel
theorem dX4_fetch_46 : decode cX4_fetch 46 = .ok (.iastore, 1) := by decide +kernel
theorem dX4_fetch_47 : decode cX4_fetch 47 = .ok (.iload_n 2, 1) := by decide +kernel
theorem dX4_fetch_48 : decode cX4_fetch 48 = .ok (.ireturn, 1) := by decide +kernel
theorem dX4_isPinned_0 : decode cX4_isPinned 0 = .ok (.aload_n 0, 1) := by decide +kernel
theorem dX4_isPinned_1 : decode cX4_isPinned 1 = .ok (.iload_n 1, 1) := by decide +kernel
theorem dX4_isPinned_2 : decode cX4_isPinned 2 = .ok (.invokevirtual 89, 3) := by decide +kernel
theorem dX4_isPinned_5 : decode cX4_isPinned 5 = .ok (.istore_n 2, 1) := by decide +kernel
theorem dX4_isPinned_6 : decode cX4_isPinned 6 = .ok (.iload_n 2, 1) := by decide +kernel
theorem dX4_isPinned_7 : decode cX4_isPinned 7 = .ok (.ifCond .lt 16, 3) := by decide +kernel
theorem dX4_isPinned_10 : decode cX4_isPinned 10 = .ok (.aload_n 0, 1) := by decide +kernel
theorem dX4_isPinned_11 : decode cX4_isPinned 11 = .ok (.getfield 25, 3) := by decide +kernel
theorem dX4_isPinned_14 : decode cX4_isPinned 14 = .ok (.iload_n 2, 1) := by decide +kernel
theorem dX4_isPinned_15 : decode cX4_isPinned 15 = .ok (.iaload, 1) := by decide +kernel
theorem dX4_isPinned_16 : decode cX4_isPinned 16 = .ok (.ifCond .le 7, 3) := by decide +kernel
theorem dX4_isPinned_19 : decode cX4_isPinned 19 = .ok (.iconst 1, 1) := by decide +kernel
theorem dX4_isPinned_20 : decode cX4_isPinned 20 = .ok (.goto 4, 3) := by decide +kernel
theorem dX4_isPinned_23 : decode cX4_isPinned 23 = .ok (.iconst 0, 1) := by decide +kernel
theorem dX4_isPinned_24 : decode cX4_isPinned 24 = .ok (.ireturn, 1) := by decide +kernel
theorem dX4_release_0 : decode cX4_release 0 = .ok (.aload_n 0, 1) := by decide +kernel
theorem dX4_release_1 : decode cX4_release 1 = .ok (.iload_n 1, 1) := by decide +kernel
theorem dX4_release_2 : decode cX4_release 2 = .ok (.iconst 0, 1) := by decide +kernel
theorem dX4_release_3 : decode cX4_release 3 = .ok (.bipush 31, 2) := by decide +kernel
theorem dX4_release_5 : decode cX4_release 5 = .ok (.invokestatic 100, 3) := by decide +kernel
theorem dX4_release_8 : decode cX4_release 8 = .ok (.ifCond .ne 7, 3) := by decide +kernel
theorem dX4_release_11 : decode cX4_release 11 = .ok (.iconst 1, 1) := by decide +kernel
theorem dX4_release_12 : decode cX4_release 12 = .ok (.goto 16, 3) := by decide +kernel
theorem dX4_release_15 : decode cX4_release 15 = .ok (.aload_n 0, 1) := by decide +kernel
theorem dX4_release_16 : decode cX4_release 16 = .ok (.iload_n 1, 1) := by decide +kernel
theorem dX4_release_17 : decode cX4_release 17 = .ok (.invokevirtual 110, 3) := by decide +kernel
theorem dX4_release_20 : decode cX4_release 20 = .ok (.ifCond .ne 7, 3) := by decide +kernel
theorem dX4_release_23 : decode cX4_release 23 = .ok (.iconst 2, 1) := by decide +kernel
theorem dX4_release_24 : decode cX4_release 24 = .ok (.goto 4, 3) := by decide +kernel
theorem dX4_release_27 : decode cX4_release 27 = .ok (.iconst 0, 1) := by decide +kernel
theorem dX4_release_28 : decode cX4_release 28 = .ok (.invokevirtual 104, 3) := by decide +kernel
theorem dX4_release_31 : decode cX4_release 31 = .ok (.ifCond .eq 5, 3) := by decide +kernel
theorem dX4_release_34 : decode cX4_release 34 = .ok (.iconst 0, 1) := by decide +kernel
theorem dX4_release_35 : decode cX4_release 35 = .ok (.ireturn, 1) := by decide +kernel
theorem dX4_release_36 : decode cX4_release 36 = .ok (.aload_n 0, 1) := by decide +kernel
theorem dX4_release_37 : decode cX4_release 37 = .ok (.iload_n 1, 1) := by decide +kernel
theorem dX4_release_38 : decode cX4_release 38 = .ok (.invokevirtual 89, 3) := by decide +kernel
theorem dX4_release_41 : decode cX4_release 41 = .ok (.istore_n 2, 1) := by decide +kernel
theorem dX4_release_42 : decode cX4_release 42 = .ok (.aload_n 0, 1) := by decide +kernel
theorem dX4_release_43 : decode cX4_release 43 = .ok (.getfield 25, 3) := by decide +kernel
theorem dX4_release_46 : decode cX4_release 46 = .ok (.iload_n 2, 1) := by decide +kernel
theorem dX4_release_47 : decode cX4_release 47 = .ok (.dup2, 1) := by decide +kernel
theorem dX4_release_48 : decode cX4_release 48 = .ok (.iaload, 1) := by decide +kernel
theorem dX4_release_49 : decode cX4_release 49 = .ok (.iconst 1, 1) := by decide +kernel
theorem dX4_release_50 : decode cX4_release 50 = .ok (.isub, 1) := by decide +kernel
theorem dX4_release_51 : decode cX4_release 51 = .ok (.iastore, 1) := by decide +kernel
theorem dX4_release_52 : decode cX4_release 52 = .ok (.aload_n 0, 1) := by decide +kernel
theorem dX4_release_53 : decode cX4_release 53 = .ok (.getfield 25, 3) := by decide +kernel
theorem dX4_release_56 : decode cX4_release 56 = .ok (.iload_n 2, 1) := by decide +kernel
theorem dX4_release_57 : decode cX4_release 57 = .ok (.iaload, 1) := by decide +kernel
theorem dX4_release_58 : decode cX4_release 58 = .ok (.ireturn, 1) := by decide +kernel
theorem dX4_get_0 : decode cX4_get 0 = .ok (.iload_n 1, 1) := by decide +kernel
theorem dX4_get_1 : decode cX4_get 1 = .ok (.iconst 0, 1) := by decide +kernel
theorem dX4_get_2 : decode cX4_get 2 = .ok (.bipush 31, 2) := by decide +kernel
theorem dX4_get_4 : decode cX4_get 4 = .ok (.invokestatic 100, 3) := by decide +kernel
theorem dX4_get_7 : decode cX4_get 7 = .ok (.ifCond .eq 17, 3) := by decide +kernel
theorem dX4_get_10 : decode cX4_get 10 = .ok (.iload_n 2, 1) := by decide +kernel
theorem dX4_get_11 : decode cX4_get 11 = .ok (.iconst 0, 1) := by decide +kernel
theorem dX4_get_12 : decode cX4_get 12 = .ok (.bipush 7, 2) := by decide +kernel
theorem dX4_get_14 : decode cX4_get 14 = .ok (.invokestatic 100, 3) := by decide +kernel
theorem dX4_get_17 : decode cX4_get 17 = .ok (.ifCond .eq 7, 3) := by decide +kernel
theorem dX4_get_20 : decode cX4_get 20 = .ok (.iconst 1, 1) := by decide +kernel
theorem dX4_get_21 : decode cX4_get 21 = .ok (.goto 4, 3) := by decide +kernel
theorem dX4_get_24 : decode cX4_get 24 = .ok (.iconst 0, 1) := by decide +kernel
theorem dX4_get_25 : decode cX4_get 25 = .ok (.istore_n 3, 1) := by decide +kernel
theorem dX4_get_26 : decode cX4_get 26 = .ok (.aload_n 0, 1) := by decide +kernel
theorem dX4_get_27 : decode cX4_get 27 = .ok (.iload_n 3, 1) := by decide +kernel
theorem dX4_get_28 : decode cX4_get 28 = .ok (.ifCond .ne 7, 3) := by decide +kernel
theorem dX4_get_31 : decode cX4_get 31 = .ok (.iconst 1, 1) := by decide +kernel
theorem dX4_get_32 : decode cX4_get 32 = .ok (.goto 16, 3) := by decide +kernel
theorem dX4_get_35 : decode cX4_get 35 = .ok (.aload_n 0, 1) := by decide +kernel
theorem dX4_get_36 : decode cX4_get 36 = .ok (.iload_n 1, 1) := by decide +kernel
theorem dX4_get_37 : decode cX4_get 37 = .ok (.invokevirtual 110, 3) := by decide +kernel
theorem dX4_get_40 : decode cX4_get 40 = .ok (.ifCond .ne 7, 3) := by decide +kernel
theorem dX4_get_43 : decode cX4_get 43 = .ok (.iconst 2, 1) := by decide +kernel
theorem dX4_get_44 : decode cX4_get 44 = .ok (.goto 4, 3) := by decide +kernel
theorem dX4_get_47 : decode cX4_get 47 = .ok (.iconst 0, 1) := by decide +kernel
theorem dX4_get_48 : decode cX4_get 48 = .ok (.invokevirtual 104, 3) := by decide +kernel
theorem dX4_get_51 : decode cX4_get 51 = .ok (.ifCond .eq 5, 3) := by decide +kernel
theorem dX4_get_54 : decode cX4_get 54 = .ok (.iconst 0, 1) := by decide +kernel
theorem dX4_get_55 : decode cX4_get 55 = .ok (.ireturn, 1) := by decide +kernel
theorem dX4_get_56 : decode cX4_get 56 = .ok (.aload_n 0, 1) := by decide +kernel
theorem dX4_get_57 : decode cX4_get 57 = .ok (.getfield 19, 3) := by decide +kernel
theorem dX4_get_60 : decode cX4_get 60 = .ok (.bipush 8, 2) := by decide +kernel
theorem dX4_get_62 : decode cX4_get 62 = .ok (.aload_n 0, 1) := by decide +kernel
theorem dX4_get_63 : decode cX4_get 63 = .ok (.iload_n 1, 1) := by decide +kernel
theorem dX4_get_64 : decode cX4_get 64 = .ok (.invokevirtual 89, 3) := by decide +kernel
theorem dX4_get_67 : decode cX4_get 67 = .ok (.imul, 1) := by decide +kernel
theorem dX4_get_68 : decode cX4_get 68 = .ok (.iload_n 2, 1) := by decide +kernel
theorem dX4_get_69 : decode cX4_get 69 = .ok (.iadd, 1) := by decide +kernel
theorem dX4_get_70 : decode cX4_get 70 = .ok (.iaload, 1) := by decide +kernel
theorem dX4_get_71 : decode cX4_get 71 = .ok (.ireturn, 1) := by decide +kernel
theorem dX4_record_0 : decode cX4_record 0 = .ok (.aload_n 0, 1) := by decide +kernel
theorem dX4_record_1 : decode cX4_record 1 = .ok (.dup, 1) := by decide +kernel
theorem dX4_record_2 : decode cX4_record 2 = .ok (.getfield 113, 3) := by decide +kernel
theorem dX4_record_5 : decode cX4_record 5 = .ok (.iconst 1, 1) := by decide +kernel
theorem dX4_record_6 : decode cX4_record 6 = .ok (.iadd, 1) := by decide +kernel
theorem dX4_record_7 : decode cX4_record 7 = .ok (.putfield 113, 3) := by decide +kernel
theorem dX4_record_10 : decode cX4_record 10 = .ok (.aload_n 0, 1) := by decide +kernel
theorem dX4_record_11 : decode cX4_record 11 = .ok (.getfield 35, 3) := by decide +kernel
theorem dX4_record_14 : decode cX4_record 14 = .ok (.aload_n 0, 1) := by decide +kernel
theorem dX4_record_15 : decode cX4_record 15 = .ok (.getfield 113, 3) := by decide +kernel
theorem dX4_record_18 : decode cX4_record 18 = .ok (.iload_n 1, 1) := by decide +kernel
theorem dX4_record_19 : decode cX4_record 19 = .ok (.iastore, 1) := by decide +kernel
theorem dX4_record_20 : decode cX4_record 20 = .ok (.aload_n 0, 1) := by decide +kernel
theorem dX4_record_21 : decode cX4_record 21 = .ok (.getfield 38, 3) := by decide +kernel
theorem dX4_record_24 : decode cX4_record 24 = .ok (.aload_n 0, 1) := by decide +kernel
theorem dX4_record_25 : decode cX4_record 25 = .ok (.getfield 113, 3) := by decide +kernel
theorem dX4_record_28 : decode cX4_record 28 = .ok (.iload_n 2, 1) := by decide +kernel
theorem dX4_record_29 : decode cX4_record 29 = .ok (.iastore, 1) := by decide +kernel
theorem dX4_record_30 : decode cX4_record 30 = .ok (.aload_n 0, 1) := by decide +kernel
theorem dX4_record_31 : decode cX4_record 31 = .ok (.getfield 41, 3) := by decide +kernel
theorem dX4_record_34 : decode cX4_record 34 = .ok (.aload_n 0, 1) := by decide +kernel
theorem dX4_record_35 : decode cX4_record 35 = .ok (.getfield 113, 3) := by decide +kernel
theorem dX4_record_38 : decode cX4_record 38 = .ok (.iconst (-1), 1) := by decide +kernel
theorem dX4_record_39 : decode cX4_record 39 = .ok (.iastore, 1) := by decide +kernel
theorem dX4_record_40 : decode cX4_record 40 = .ok (.aload_n 0, 1) := by decide +kernel
theorem dX4_record_41 : decode cX4_record 41 = .ok (.getfield 44, 3) := by decide +kernel
theorem dX4_record_44 : decode cX4_record 44 = .ok (.aload_n 0, 1) := by decide +kernel
theorem dX4_record_45 : decode cX4_record 45 = .ok (.getfield 113, 3) := by decide +kernel
theorem dX4_record_48 : decode cX4_record 48 = .ok (.iconst (-1), 1) := by decide +kernel
theorem dX4_record_49 : decode cX4_record 49 = .ok (.iastore, 1) := by decide +kernel
theorem dX4_record_50 : decode cX4_record 50 = .ok (.aload_n 0, 1) := by decide +kernel
theorem dX4_record_51 : decode cX4_record 51 = .ok (.getfield 47, 3) := by decide +kernel
theorem dX4_record_54 : decode cX4_record 54 = .ok (.aload_n 0, 1) := by decide +kernel
theorem dX4_record_55 : decode cX4_record 55 = .ok (.getfield 113, 3) := by decide +kernel
theorem dX4_record_58 : decode cX4_record 58 = .ok (.iconst (-1), 1) := by decide +kernel
theorem dX4_record_59 : decode cX4_record 59 = .ok (.iastore, 1) := by decide +kernel
theorem dX4_record_60 : decode cX4_record 60 = .ok (.aload_n 0, 1) := by decide +kernel
theorem dX4_record_61 : decode cX4_record 61 = .ok (.getfield 50, 3) := by decide +kernel
theorem dX4_record_64 : decode cX4_record 64 = .ok (.aload_n 0, 1) := by decide +kernel
theorem dX4_record_65 : decode cX4_record 65 = .ok (.getfield 113, 3) := by decide +kernel
theorem dX4_record_68 : decode cX4_record 68 = .ok (.iconst (-1), 1) := by decide +kernel
theorem dX4_record_69 : decode cX4_record 69 = .ok (.iastore, 1) := by decide +kernel
theorem dX4_record_70 : decode cX4_record 70 = .ok (.aload_n 0, 1) := by decide +kernel
theorem dX4_record_71 : decode cX4_record 71 = .ok (.getfield 53, 3) := by decide +kernel
theorem dX4_record_74 : decode cX4_record 74 = .ok (.aload_n 0, 1) := by decide +kernel
theorem dX4_record_75 : decode cX4_record 75 = .ok (.getfield 113, 3) := by decide +kernel
theorem dX4_record_78 : decode cX4_record 78 = .ok (.iconst (-1), 1) := by decide +kernel
theorem dX4_record_79 : decode cX4_record 79 = .ok (.iastore, 1) := by decide +kernel
theorem dX4_record_80 : decode cX4_record 80 = .ok (.aload_n 0, 1) := by decide +kernel
theorem dX4_record_81 : decode cX4_record 81 = .ok (.getfield 56, 3) := by decide +kernel
theorem dX4_record_84 : decode cX4_record 84 = .ok (.aload_n 0, 1) := by decide +kernel
theorem dX4_record_85 : decode cX4_record 85 = .ok (.getfield 113, 3) := by decide +kernel
theorem dX4_record_88 : decode cX4_record 88 = .ok (.iconst 0, 1) := by decide +kernel
theorem dX4_record_89 : decode cX4_record 89 = .ok (.bastore, 1) := by decide +kernel
theorem dX4_record_90 : decode cX4_record 90 = .ok (.aload_n 0, 1) := by decide +kernel
theorem dX4_record_91 : decode cX4_record 91 = .ok (.getfield 113, 3) := by decide +kernel
theorem dX4_record_94 : decode cX4_record 94 = .ok (.ireturn, 1) := by decide +kernel
theorem dX4_lastOf_0 : decode cX4_lastOf 0 = .ok (.aload_n 0, 1) := by decide +kernel
theorem dX4_lastOf_1 : decode cX4_lastOf 1 = .ok (.getfield 113, 3) := by decide +kernel
theorem dX4_lastOf_4 : decode cX4_lastOf 4 = .ok (.istore_n 2, 1) := by decide +kernel
theorem dX4_lastOf_5 : decode cX4_lastOf 5 = .ok (.iload_n 2, 1) := by decide +kernel
theorem dX4_lastOf_6 : decode cX4_lastOf 6 = .ok (.ifCond .le 71, 3) := by decide +kernel
theorem dX4_lastOf_9 : decode cX4_lastOf 9 = .ok (.aload_n 0, 1) := by decide +kernel
theorem dX4_lastOf_10 : decode cX4_lastOf 10 = .ok (.getfield 38, 3) := by decide +kernel
theorem dX4_lastOf_13 : decode cX4_lastOf 13 = .ok (.iload_n 2, 1) := by decide +kernel
theorem dX4_lastOf_14 : decode cX4_lastOf 14 = .ok (.iaload, 1) := by decide +kernel
theorem dX4_lastOf_15 : decode cX4_lastOf 15 = .ok (.iload_n 1, 1) := by decide +kernel
theorem dX4_lastOf_16 : decode cX4_lastOf 16 = .ok (.if_icmp .ne 25, 3) := by decide +kernel
theorem dX4_lastOf_19 : decode cX4_lastOf 19 = .ok (.aload_n 0, 1) := by decide +kernel
theorem dX4_lastOf_20 : decode cX4_lastOf 20 = .ok (.getfield 35, 3) := by decide +kernel
theorem dX4_lastOf_23 : decode cX4_lastOf 23 = .ok (.iload_n 2, 1) := by decide +kernel
theorem dX4_lastOf_24 : decode cX4_lastOf 24 = .ok (.iaload, 1) := by decide +kernel
theorem dX4_lastOf_25 : decode cX4_lastOf 25 = .ok (.iconst 2, 1) := by decide +kernel
theorem dX4_lastOf_26 : decode cX4_lastOf 26 = .ok (.if_icmp .eq 13, 3) := by decide +kernel
theorem dX4_lastOf_29 : decode cX4_lastOf 29 = .ok (.aload_n 0, 1) := by decide +kernel
theorem dX4_lastOf_30 : decode cX4_lastOf 30 = .ok (.getfield 35, 3) := by decide +kernel
theorem dX4_lastOf_33 : decode cX4_lastOf 33 = .ok (.iload_n 2, 1) := by decide +kernel
theorem dX4_lastOf_34 : decode cX4_lastOf 34 = .ok (.iaload, 1) := by decide +kernel
theorem dX4_lastOf_35 : decode cX4_lastOf 35 = .ok (.iconst 3, 1) := by decide +kernel
theorem dX4_lastOf_36 : decode cX4_lastOf 36 = .ok (.if_icmp .ne 5, 3) := by decide +kernel
theorem dX4_lastOf_39 : decode cX4_lastOf 39 = .ok (.iconst 0, 1) := by decide +kernel
theorem dX4_lastOf_40 : decode cX4_lastOf 40 = .ok (.ireturn, 1) := by decide +kernel
theorem dX4_lastOf_41 : decode cX4_lastOf 41 = .ok (.aload_n 0, 1) := by decide +kernel
theorem dX4_lastOf_42 : decode cX4_lastOf 42 = .ok (.getfield 38, 3) := by decide +kernel
theorem dX4_lastOf_45 : decode cX4_lastOf 45 = .ok (.iload_n 2, 1) := by decide +kernel
theorem dX4_lastOf_46 : decode cX4_lastOf 46 = .ok (.iaload, 1) := by decide +kernel
theorem dX4_lastOf_47 : decode cX4_lastOf 47 = .ok (.iload_n 1, 1) := by decide +kernel
theorem dX4_lastOf_48 : decode cX4_lastOf 48 = .ok (.if_icmp .ne 23, 3) := by decide +kernel
theorem dX4_lastOf_51 : decode cX4_lastOf 51 = .ok (.aload_n 0, 1) := by decide +kernel
theorem dX4_lastOf_52 : decode cX4_lastOf 52 = .ok (.getfield 35, 3) := by decide +kernel
theorem dX4_lastOf_55 : decode cX4_lastOf 55 = .ok (.iload_n 2, 1) := by decide +kernel
theorem dX4_lastOf_56 : decode cX4_lastOf 56 = .ok (.iaload, 1) := by decide +kernel
theorem dX4_lastOf_57 : decode cX4_lastOf 57 = .ok (.ifCond .ne 14, 3) := by decide +kernel
theorem dX4_lastOf_60 : decode cX4_lastOf 60 = .ok (.aload_n 0, 1) := by decide +kernel
theorem dX4_lastOf_61 : decode cX4_lastOf 61 = .ok (.getfield 56, 3) := by decide +kernel
theorem dX4_lastOf_64 : decode cX4_lastOf 64 = .ok (.iload_n 2, 1) := by decide +kernel
theorem dX4_lastOf_65 : decode cX4_lastOf 65 = .ok (.baload, 1) := by decide +kernel
theorem dX4_lastOf_66 : decode cX4_lastOf 66 = .ok (.ifCond .ne 5, 3) := by decide +kernel
theorem dX4_lastOf_69 : decode cX4_lastOf 69 = .ok (.iload_n 2, 1) := by decide +kernel
theorem dX4_lastOf_70 : decode cX4_lastOf 70 = .ok (.ireturn, 1) := by decide +kernel
theorem dX4_lastOf_71 : decode cX4_lastOf 71 = .ok (.iinc 2 (-1), 3) := by decide +kernel
theorem dX4_lastOf_74 : decode cX4_lastOf 74 = .ok (.goto (-69), 3) := by decide +kernel
theorem dX4_lastOf_77 : decode cX4_lastOf 77 = .ok (.iconst 0, 1) := by decide +kernel
theorem dX4_lastOf_78 : decode cX4_lastOf 78 = .ok (.ireturn, 1) := by decide +kernel
theorem dX4_undosOf_0 : decode cX4_undosOf 0 = .ok (.iconst 0, 1) := by decide +kernel
theorem dX4_undosOf_1 : decode cX4_undosOf 1 = .ok (.istore_n 2, 1) := by decide +kernel
theorem dX4_undosOf_2 : decode cX4_undosOf 2 = .ok (.aload_n 0, 1) := by decide +kernel
theorem dX4_undosOf_3 : decode cX4_undosOf 3 = .ok (.getfield 113, 3) := by decide +kernel
theorem dX4_undosOf_6 : decode cX4_undosOf 6 = .ok (.istore_n 3, 1) := by decide +kernel
theorem dX4_undosOf_7 : decode cX4_undosOf 7 = .ok (.iload_n 3, 1) := by decide +kernel
theorem dX4_undosOf_8 : decode cX4_undosOf 8 = .ok (.ifCond .le 77, 3) := by decide +kernel
theorem dX4_undosOf_11 : decode cX4_undosOf 11 = .ok (.aload_n 0, 1) := by decide +kernel
theorem dX4_undosOf_12 : decode cX4_undosOf 12 = .ok (.getfield 38, 3) := by decide +kernel
theorem dX4_undosOf_15 : decode cX4_undosOf 15 = .ok (.iload_n 3, 1) := by decide +kernel
theorem dX4_undosOf_16 : decode cX4_undosOf 16 = .ok (.iaload, 1) := by decide +kernel
theorem dX4_undosOf_17 : decode cX4_undosOf 17 = .ok (.iload_n 1, 1) := by decide +kernel
theorem dX4_undosOf_18 : decode cX4_undosOf 18 = .ok (.if_icmp .ne 25, 3) := by decide +kernel
theorem dX4_undosOf_21 : decode cX4_undosOf 21 = .ok (.aload_n 0, 1) := by decide +kernel
theorem dX4_undosOf_22 : decode cX4_undosOf 22 = .ok (.getfield 35, 3) := by decide +kernel
theorem dX4_undosOf_25 : decode cX4_undosOf 25 = .ok (.iload_n 3, 1) := by decide +kernel
theorem dX4_undosOf_26 : decode cX4_undosOf 26 = .ok (.iaload, 1) := by decide +kernel
theorem dX4_undosOf_27 : decode cX4_undosOf 27 = .ok (.iconst 2, 1) := by decide +kernel
theorem dX4_undosOf_28 : decode cX4_undosOf 28 = .ok (.if_icmp .eq 13, 3) := by decide +kernel
theorem dX4_undosOf_31 : decode cX4_undosOf 31 = .ok (.aload_n 0, 1) := by decide +kernel
theorem dX4_undosOf_32 : decode cX4_undosOf 32 = .ok (.getfield 35, 3) := by decide +kernel
theorem dX4_undosOf_35 : decode cX4_undosOf 35 = .ok (.iload_n 3, 1) := by decide +kernel
theorem dX4_undosOf_36 : decode cX4_undosOf 36 = .ok (.iaload, 1) := by decide +kernel
theorem dX4_undosOf_37 : decode cX4_undosOf 37 = .ok (.iconst 3, 1) := by decide +kernel
theorem dX4_undosOf_38 : decode cX4_undosOf 38 = .ok (.if_icmp .ne 5, 3) := by decide +kernel
theorem dX4_undosOf_41 : decode cX4_undosOf 41 = .ok (.iload_n 2, 1) := by decide +kernel
theorem dX4_undosOf_42 : decode cX4_undosOf 42 = .ok (.ireturn, 1) := by decide +kernel
theorem dX4_undosOf_43 : decode cX4_undosOf 43 = .ok (.aload_n 0, 1) := by decide +kernel
theorem dX4_undosOf_44 : decode cX4_undosOf 44 = .ok (.getfield 38, 3) := by decide +kernel
theorem dX4_undosOf_47 : decode cX4_undosOf 47 = .ok (.iload_n 3, 1) := by decide +kernel
theorem dX4_undosOf_48 : decode cX4_undosOf 48 = .ok (.iaload, 1) := by decide +kernel
theorem dX4_undosOf_49 : decode cX4_undosOf 49 = .ok (.iload_n 1, 1) := by decide +kernel
theorem dX4_undosOf_50 : decode cX4_undosOf 50 = .ok (.if_icmp .ne 27, 3) := by decide +kernel
theorem dX4_undosOf_53 : decode cX4_undosOf 53 = .ok (.aload_n 0, 1) := by decide +kernel
theorem dX4_undosOf_54 : decode cX4_undosOf 54 = .ok (.getfield 35, 3) := by decide +kernel
theorem dX4_undosOf_57 : decode cX4_undosOf 57 = .ok (.iload_n 3, 1) := by decide +kernel
theorem dX4_undosOf_58 : decode cX4_undosOf 58 = .ok (.iaload, 1) := by decide +kernel
theorem dX4_undosOf_59 : decode cX4_undosOf 59 = .ok (.ifCond .ne 18, 3) := by decide +kernel
theorem dX4_undosOf_62 : decode cX4_undosOf 62 = .ok (.aload_n 0, 1) := by decide +kernel
theorem dX4_undosOf_63 : decode cX4_undosOf 63 = .ok (.getfield 56, 3) := by decide +kernel
theorem dX4_undosOf_66 : decode cX4_undosOf 66 = .ok (.iload_n 3, 1) := by decide +kernel
theorem dX4_undosOf_67 : decode cX4_undosOf 67 = .ok (.baload, 1) := by decide +kernel
theorem dX4_undosOf_68 : decode cX4_undosOf 68 = .ok (.ifCond .ne 9, 3) := by decide +kernel
theorem dX4_undosOf_71 : decode cX4_undosOf 71 = .ok (.iload_n 2, 1) := by decide +kernel
theorem dX4_undosOf_72 : decode cX4_undosOf 72 = .ok (.iconst 1, 1) := by decide +kernel
theorem dX4_undosOf_73 : decode cX4_undosOf 73 = .ok (.iadd, 1) := by decide +kernel
theorem dX4_undosOf_74 : decode cX4_undosOf 74 = .ok (.goto 4, 3) := by decide +kernel
theorem dX4_undosOf_77 : decode cX4_undosOf 77 = .ok (.iload_n 2, 1) := by decide +kernel
theorem dX4_undosOf_78 : decode cX4_undosOf 78 = .ok (.istore_n 2, 1) := by decide +kernel
theorem dX4_undosOf_79 : decode cX4_undosOf 79 = .ok (.iinc 3 (-1), 3) := by decide +kernel
theorem dX4_undosOf_82 : decode cX4_undosOf 82 = .ok (.goto (-75), 3) := by decide +kernel
theorem dX4_undosOf_85 : decode cX4_undosOf 85 = .ok (.iload_n 2, 1) := by decide +kernel
theorem dX4_undosOf_86 : decode cX4_undosOf 86 = .ok (.ireturn, 1) := by decide +kernel
theorem dX4_needed_0 : decode cX4_needed 0 = .ok (.iconst 0, 1) := by decide +kernel
theorem dX4_needed_1 : decode cX4_needed 1 = .ok (.istore_n 1, 1) := by decide +kernel
theorem dX4_needed_2 : decode cX4_needed 2 = .ok (.iconst 0, 1) := by decide +kernel
theorem dX4_needed_3 : decode cX4_needed 3 = .ok (.istore_n 2, 1) := by decide +kernel
theorem dX4_needed_4 : decode cX4_needed 4 = .ok (.iload_n 2, 1) := by decide +kernel
theorem dX4_needed_5 : decode cX4_needed 5 = .ok (.bipush 8, 2) := by decide +kernel
theorem dX4_needed_7 : decode cX4_needed 7 = .ok (.if_icmp .ge 32, 3) := by decide +kernel
theorem dX4_needed_10 : decode cX4_needed 10 = .ok (.aload_n 0, 1) := by decide +kernel
theorem dX4_needed_11 : decode cX4_needed 11 = .ok (.getfield 59, 3) := by decide +kernel
theorem dX4_needed_14 : decode cX4_needed 14 = .ok (.iload_n 2, 1) := by decide +kernel
theorem dX4_needed_15 : decode cX4_needed 15 = .ok (.baload, 1) := by decide +kernel
theorem dX4_needed_16 : decode cX4_needed 16 = .ok (.ifCond .eq 15, 3) := by decide +kernel
theorem dX4_needed_19 : decode cX4_needed 19 = .ok (.iload_n 1, 1) := by decide +kernel
theorem dX4_needed_20 : decode cX4_needed 20 = .ok (.iconst 1, 1) := by decide +kernel
theorem dX4_needed_21 : decode cX4_needed 21 = .ok (.iadd, 1) := by decide +kernel
theorem dX4_needed_22 : decode cX4_needed 22 = .ok (.aload_n 0, 1) := by decide +kernel
theorem dX4_needed_23 : decode cX4_needed 23 = .ok (.iload_n 2, 1) := by decide +kernel
theorem dX4_needed_24 : decode cX4_needed 24 = .ok (.invokevirtual 116, 3) := by decide +kernel
theorem dX4_needed_27 : decode cX4_needed 27 = .ok (.iadd, 1) := by decide +kernel
theorem dX4_needed_28 : decode cX4_needed 28 = .ok (.goto 4, 3) := by decide +kernel
theorem dX4_needed_31 : decode cX4_needed 31 = .ok (.iload_n 1, 1) := by decide +kernel
theorem dX4_needed_32 : decode cX4_needed 32 = .ok (.istore_n 1, 1) := by decide +kernel
theorem dX4_needed_33 : decode cX4_needed 33 = .ok (.iinc 2 1, 3) := by decide +kernel
theorem dX4_needed_36 : decode cX4_needed 36 = .ok (.goto (-32), 3) := by decide +kernel
theorem dX4_needed_39 : decode cX4_needed 39 = .ok (.iload_n 1, 1) := by decide +kernel
theorem dX4_needed_40 : decode cX4_needed 40 = .ok (.ireturn, 1) := by decide +kernel
theorem dX4_begin_0 : decode cX4_begin 0 = .ok (.aload_n 0, 1) := by decide +kernel
theorem dX4_begin_1 : decode cX4_begin 1 = .ok (.iconst 0, 1) := by decide +kernel
theorem dX4_begin_2 : decode cX4_begin 2 = .ok (.putfield 69, 3) := by decide +kernel
theorem dX4_begin_5 : decode cX4_begin 5 = .ok (.iconst 0, 1) := by decide +kernel
theorem dX4_begin_6 : decode cX4_begin 6 = .ok (.istore_n 1, 1) := by decide +kernel
theorem dX4_begin_7 : decode cX4_begin 7 = .ok (.iload_n 1, 1) := by decide +kernel
theorem dX4_begin_8 : decode cX4_begin 8 = .ok (.bipush 8, 2) := by decide +kernel
theorem dX4_begin_10 : decode cX4_begin 10 = .ok (.if_icmp .ge 18, 3) := by decide +kernel
theorem dX4_begin_13 : decode cX4_begin 13 = .ok (.aload_n 0, 1) := by decide +kernel
theorem dX4_begin_14 : decode cX4_begin 14 = .ok (.getfield 59, 3) := by decide +kernel
theorem dX4_begin_17 : decode cX4_begin 17 = .ok (.iload_n 1, 1) := by decide +kernel
theorem dX4_begin_18 : decode cX4_begin 18 = .ok (.baload, 1) := by decide +kernel
theorem dX4_begin_19 : decode cX4_begin 19 = .ok (.ifCond .eq 9, 3) := by decide +kernel
theorem dX4_begin_22 : decode cX4_begin 22 = .ok (.iinc 1 1, 3) := by decide +kernel
theorem dX4_begin_25 : decode cX4_begin 25 = .ok (.goto (-18), 3) := by decide +kernel
theorem dX4_begin_28 : decode cX4_begin 28 = .ok (.iload_n 1, 1) := by decide +kernel
theorem dX4_begin_29 : decode cX4_begin 29 = .ok (.bipush 8, 2) := by decide +kernel
theorem dX4_begin_31 : decode cX4_begin 31 = .ok (.if_icmp .eq 20, 3) := by decide +kernel
theorem dX4_begin_34 : decode cX4_begin 34 = .ok (.aload_n 0, 1) := by decide +kernel
theorem dX4_begin_35 : decode cX4_begin 35 = .ok (.getfield 113, 3) := by decide +kernel
theorem dX4_begin_38 : decode cX4_begin 38 = .ok (.aload_n 0, 1) := by decide +kernel
theorem dX4_begin_39 : decode cX4_begin 39 = .ok (.invokevirtual 119, 3) := by decide +kernel
theorem dX4_begin_42 : decode cX4_begin 42 = .ok (.iadd, 1) := by decide +kernel
theorem dX4_begin_43 : decode cX4_begin 43 = .ok (.iconst 2, 1) := by decide +kernel
theorem dX4_begin_44 : decode cX4_begin 44 = .ok (.iadd, 1) := by decide +kernel
theorem dX4_begin_45 : decode cX4_begin 45 = .ok (.sipush 400, 3) := by decide +kernel
theorem dX4_begin_48 : decode cX4_begin 48 = .ok (.if_icmp .le 6, 3) := by decide +kernel
theorem dX4_begin_51 : decode cX4_begin 51 = .ok (.bipush (-2), 2) := by decide +kernel
theorem dX4_begin_53 : decode cX4_begin 53 = .ok (.ireturn, 1) := by decide +kernel
theorem dX4_begin_54 : decode cX4_begin 54 = .ok (.aload_n 0, 1) := by decide +kernel
theorem dX4_begin_55 : decode cX4_begin 55 = .ok (.getfield 59, 3) := by decide +kernel
theorem dX4_begin_58 : decode cX4_begin 58 = .ok (.iload_n 1, 1) := by decide +kernel
theorem dX4_begin_59 : decode cX4_begin 59 = .ok (.iconst 1, 1) := by decide +kernel
theorem dX4_begin_60 : decode cX4_begin 60 = .ok (.bastore, 1) := by decide +kernel
theorem dX4_begin_61 : decode cX4_begin 61 = .ok (.aload_n 0, 1) := by decide +kernel
theorem dX4_begin_62 : decode cX4_begin 62 = .ok (.getfield 62, 3) := by decide +kernel
theorem dX4_begin_65 : decode cX4_begin 65 = .ok (.iload_n 1, 1) := by decide +kernel
theorem dX4_begin_66 : decode cX4_begin 66 = .ok (.iconst 0, 1) := by decide +kernel
theorem dX4_begin_67 : decode cX4_begin 67 = .ok (.bastore, 1) := by decide +kernel
theorem dX4_begin_68 : decode cX4_begin 68 = .ok (.iload_n 1, 1) := by decide +kernel
theorem dX4_begin_69 : decode cX4_begin 69 = .ok (.ireturn, 1) := by decide +kernel
theorem dX4_set_0 : decode cX4_set 0 = .ok (.iload_n 1, 1) := by decide +kernel
theorem dX4_set_1 : decode cX4_set 1 = .ok (.iconst 0, 1) := by decide +kernel
theorem dX4_set_2 : decode cX4_set 2 = .ok (.bipush 7, 2) := by decide +kernel
theorem dX4_set_4 : decode cX4_set 4 = .ok (.invokestatic 100, 3) := by decide +kernel
theorem dX4_set_7 : decode cX4_set 7 = .ok (.ifCond .eq 27, 3) := by decide +kernel
theorem dX4_set_10 : decode cX4_set 10 = .ok (.iload_n 2, 1) := by decide +kernel
theorem dX4_set_11 : decode cX4_set 11 = .ok (.iconst 0, 1) := by decide +kernel
theorem dX4_set_12 : decode cX4_set 12 = .ok (.bipush 31, 2) := by decide +kernel
theorem dX4_set_14 : decode cX4_set 14 = .ok (.invokestatic 100, 3) := by decide +kernel
theorem dX4_set_17 : decode cX4_set 17 = .ok (.ifCond .eq 17, 3) := by decide +kernel
theorem dX4_set_20 : decode cX4_set 20 = .ok (.iload_n 3, 1) := by decide +kernel
theorem dX4_set_21 : decode cX4_set 21 = .ok (.iconst 0, 1) := by decide +kernel
theorem dX4_set_22 : decode cX4_set 22 = .ok (.bipush 7, 2) := by decide +kernel
theorem dX4_set_24 : decode cX4_set 24 = .ok (.invokestatic 100, 3) := by decide +kernel
theorem dX4_set_27 : decode cX4_set 27 = .ok (.ifCond .eq 7, 3) := by decide +kernel
theorem dX4_set_30 : decode cX4_set 30 = .ok (.iconst 1, 1) := by decide +kernel
theorem dX4_set_31 : decode cX4_set 31 = .ok (.goto 4, 3) := by decide +kernel
theorem dX4_set_34 : decode cX4_set 34 = .ok (.iconst 0, 1) := by decide +kernel
theorem dX4_set_35 : decode cX4_set 35 = .ok (.istore 5, 2) := by decide +kernel
theorem dX4_set_37 : decode cX4_set 37 = .ok (.aload_n 0, 1) := by decide +kernel
theorem dX4_set_38 : decode cX4_set 38 = .ok (.iload 5, 2) := by decide +kernel
theorem dX4_set_40 : decode cX4_set 40 = .ok (.ifCond .ne 7, 3) := by decide +kernel
theorem dX4_set_43 : decode cX4_set 43 = .ok (.iconst 1, 1) := by decide +kernel
theorem dX4_set_44 : decode cX4_set 44 = .ok (.goto 34, 3) := by decide +kernel
theorem dX4_set_47 : decode cX4_set 47 = .ok (.aload_n 0, 1) := by decide +kernel
theorem dX4_set_48 : decode cX4_set 48 = .ok (.getfield 59, 3) := by decide +kernel
theorem dX4_set_51 : decode cX4_set 51 = .ok (.iload_n 1, 1) := by decide +kernel
theorem dX4_set_52 : decode cX4_set 52 = .ok (.baload, 1) := by decide +kernel
theorem dX4_set_53 : decode cX4_set 53 = .ok (.ifCond .eq 20, 3) := by decide +kernel
theorem dX4_set_56 : decode cX4_set 56 = .ok (.aload_n 0, 1) := by decide +kernel
theorem dX4_set_57 : decode cX4_set 57 = .ok (.getfield 62, 3) := by decide +kernel
theorem dX4_set_60 : decode cX4_set 60 = .ok (.iload_n 1, 1) := by decide +kernel
theorem dX4_set_61 : decode cX4_set 61 = .ok (.baload, 1) := by decide +kernel
theorem dX4_set_62 : decode cX4_set 62 = .ok (.ifCond .ne 11, 3) := by decide +kernel
theorem dX4_set_65 : decode cX4_set 65 = .ok (.aload_n 0, 1) := by decide +kernel
theorem dX4_set_66 : decode cX4_set 66 = .ok (.iload_n 2, 1) := by decide +kernel
theorem dX4_set_67 : decode cX4_set 67 = .ok (.invokevirtual 110, 3) := by decide +kernel
theorem dX4_set_70 : decode cX4_set 70 = .ok (.ifCond .ne 7, 3) := by decide +kernel
theorem dX4_set_73 : decode cX4_set 73 = .ok (.iconst 2, 1) := by decide +kernel
theorem dX4_set_74 : decode cX4_set 74 = .ok (.goto 4, 3) := by decide +kernel
theorem dX4_set_77 : decode cX4_set 77 = .ok (.iconst 0, 1) := by decide +kernel
theorem dX4_set_78 : decode cX4_set 78 = .ok (.invokevirtual 104, 3) := by decide +kernel
theorem dX4_set_81 : decode cX4_set 81 = .ok (.ifCond .eq 5, 3) := by decide +kernel
theorem dX4_set_84 : decode cX4_set 84 = .ok (.iconst 0, 1) := by decide +kernel
theorem dX4_set_85 : decode cX4_set 85 = .ok (.ireturn, 1) := by decide +kernel
theorem dX4_set_86 : decode cX4_set 86 = .ok (.aload_n 0, 1) := by decide +kernel
theorem dX4_set_87 : decode cX4_set 87 = .ok (.getfield 113, 3) := by decide +kernel
theorem dX4_set_90 : decode cX4_set 90 = .ok (.iconst 1, 1) := by decide +kernel
theorem dX4_set_91 : decode cX4_set 91 = .ok (.iadd, 1) := by decide +kernel
theorem dX4_set_92 : decode cX4_set 92 = .ok (.aload_n 0, 1) := by decide +kernel
theorem dX4_set_93 : decode cX4_set 93 = .ok (.invokevirtual 119, 3) := by decide +kernel
theorem dX4_set_96 : decode cX4_set 96 = .ok (.iadd, 1) := by decide +kernel
theorem dX4_set_97 : decode cX4_set 97 = .ok (.iconst 1, 1) := by decide +kernel
theorem dX4_set_98 : decode cX4_set 98 = .ok (.iadd, 1) := by decide +kernel
theorem dX4_set_99 : decode cX4_set 99 = .ok (.iconst 1, 1) := by decide +kernel
theorem dX4_set_100 : decode cX4_set 100 = .ok (.iadd, 1) := by decide +kernel
theorem dX4_set_101 : decode cX4_set 101 = .ok (.sipush 400, 3) := by decide +kernel
theorem dX4_set_104 : decode cX4_set 104 = .ok (.if_icmp .le 6, 3) := by decide +kernel
theorem dX4_set_107 : decode cX4_set 107 = .ok (.bipush (-2), 2) := by decide +kernel
theorem dX4_set_109 : decode cX4_set 109 = .ok (.ireturn, 1) := by decide +kernel
theorem dX4_set_110 : decode cX4_set 110 = .ok (.aload_n 0, 1) := by decide +kernel
theorem dX4_set_111 : decode cX4_set 111 = .ok (.iload_n 2, 1) := by decide +kernel
theorem dX4_set_112 : decode cX4_set 112 = .ok (.invokevirtual 89, 3) := by decide +kernel
theorem dX4_set_115 : decode cX4_set 115 = .ok (.istore 6, 2) := by decide +kernel
theorem dX4_set_117 : decode cX4_set 117 = .ok (.aload_n 0, 1) := by decide +kernel
theorem dX4_set_118 : decode cX4_set 118 = .ok (.iconst 0, 1) := by decide +kernel
theorem dX4_set_119 : decode cX4_set 119 = .ok (.iload_n 1, 1) := by decide +kernel
theorem dX4_set_120 : decode cX4_set 120 = .ok (.invokevirtual 122, 3) := by decide +kernel
theorem dX4_set_123 : decode cX4_set 123 = .ok (.istore 7, 2) := by decide +kernel
theorem dX4_set_125 : decode cX4_set 125 = .ok (.aload_n 0, 1) := by decide +kernel
theorem dX4_set_126 : decode cX4_set 126 = .ok (.getfield 41, 3) := by decide +kernel
theorem dX4_set_129 : decode cX4_set 129 = .ok (.iload 7, 2) := by decide +kernel
theorem dX4_set_131 : decode cX4_set 131 = .ok (.iload_n 2, 1) := by decide +kernel
theorem dX4_set_132 : decode cX4_set 132 = .ok (.iastore, 1) := by decide +kernel
theorem dX4_set_133 : decode cX4_set 133 = .ok (.aload_n 0, 1) := by decide +kernel
theorem dX4_set_134 : decode cX4_set 134 = .ok (.getfield 44, 3) := by decide +kernel
theorem dX4_set_137 : decode cX4_set 137 = .ok (.iload 7, 2) := by decide +kernel
theorem dX4_set_139 : decode cX4_set 139 = .ok (.iload_n 3, 1) := by decide +kernel
theorem dX4_set_140 : decode cX4_set 140 = .ok (.iastore, 1) := by decide +kernel
theorem dX4_set_141 : decode cX4_set 141 = .ok (.aload_n 0, 1) := by decide +kernel
theorem dX4_set_142 : decode cX4_set 142 = .ok (.getfield 47, 3) := by decide +kernel
theorem dX4_set_145 : decode cX4_set 145 = .ok (.iload 7, 2) := by decide +kernel
theorem dX4_set_147 : decode cX4_set 147 = .ok (.aload_n 0, 1) := by decide +kernel
theorem dX4_set_148 : decode cX4_set 148 = .ok (.getfield 19, 3) := by decide +kernel
theorem dX4_set_151 : decode cX4_set 151 = .ok (.bipush 8, 2) := by decide +kernel
theorem dX4_set_153 : decode cX4_set 153 = .ok (.iload 6, 2) := by decide +kernel
theorem dX4_set_155 : decode cX4_set 155 = .ok (.imul, 1) := by decide +kernel
theorem dX4_set_156 : decode cX4_set 156 = .ok (.iload_n 3, 1) := by decide +kernel
theorem dX4_set_157 : decode cX4_set 157 = .ok (.iadd, 1) := by decide +kernel
theorem dX4_set_158 : decode cX4_set 158 = .ok (.iaload, 1) := by decide +kernel
theorem dX4_set_159 : decode cX4_set 159 = .ok (.iastore, 1) := by decide +kernel
theorem dX4_set_160 : decode cX4_set 160 = .ok (.aload_n 0, 1) := by decide +kernel
theorem dX4_set_161 : decode cX4_set 161 = .ok (.getfield 50, 3) := by decide +kernel
theorem dX4_set_164 : decode cX4_set 164 = .ok (.iload 7, 2) := by decide +kernel
theorem dX4_set_166 : decode cX4_set 166 = .ok (.iload 4, 2) := by decide +kernel
theorem dX4_set_168 : decode cX4_set 168 = .ok (.iastore, 1) := by decide +kernel
theorem dX4_set_169 : decode cX4_set 169 = .ok (.aload_n 0, 1) := by decide +kernel
theorem dX4_set_170 : decode cX4_set 170 = .ok (.getfield 19, 3) := by decide +kernel
theorem dX4_set_173 : decode cX4_set 173 = .ok (.bipush 8, 2) := by decide +kernel
theorem dX4_set_175 : decode cX4_set 175 = .ok (.iload 6, 2) := by decide +kernel
theorem dX4_set_177 : decode cX4_set 177 = .ok (.imul, 1) := by decide +kernel
theorem dX4_set_178 : decode cX4_set 178 = .ok (.iload_n 3, 1) := by decide +kernel
theorem dX4_set_179 : decode cX4_set 179 = .ok (.iadd, 1) := by decide +kernel
theorem dX4_set_180 : decode cX4_set 180 = .ok (.iload 4, 2) := by decide +kernel
