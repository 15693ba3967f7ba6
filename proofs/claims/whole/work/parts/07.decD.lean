theorem dX4_set_182 : decode cX4_set 182 = .ok (.iastore, 1) := by decide +kernel
theorem dX4_set_183 : decode cX4_set 183 = .ok (.aload_n 0, 1) := by decide +kernel
theorem dX4_set_184 : decode cX4_set 184 = .ok (.getfield 22, 3) := by decide +kernel
theorem dX4_set_187 : decode cX4_set 187 = .ok (.iload 6, 2) := by decide +kernel
theorem dX4_set_189 : decode cX4_set 189 = .ok (.iload 7, 2) := by decide +kernel
theorem dX4_set_191 : decode cX4_set 191 = .ok (.iastore, 1) := by decide +kernel
theorem dX4_set_192 : decode cX4_set 192 = .ok (.aload_n 0, 1) := by decide +kernel
theorem dX4_set_193 : decode cX4_set 193 = .ok (.getfield 28, 3) := by decide +kernel
theorem dX4_set_196 : decode cX4_set 196 = .ok (.iload 6, 2) := by decide +kernel
theorem dX4_set_198 : decode cX4_set 198 = .ok (.iconst 1, 1) := by decide +kernel
theorem dX4_set_199 : decode cX4_set 199 = .ok (.bastore, 1) := by decide +kernel
theorem dX4_set_200 : decode cX4_set 200 = .ok (.iload 7, 2) := by decide +kernel
theorem dX4_set_202 : decode cX4_set 202 = .ok (.ireturn, 1) := by decide +kernel
theorem dX4_commit_0 : decode cX4_commit 0 = .ok (.aload_n 0, 1) := by decide +kernel
theorem dX4_commit_1 : decode cX4_commit 1 = .ok (.iload_n 1, 1) := by decide +kernel
theorem dX4_commit_2 : decode cX4_commit 2 = .ok (.iconst 0, 1) := by decide +kernel
theorem dX4_commit_3 : decode cX4_commit 3 = .ok (.bipush 7, 2) := by decide +kernel
theorem dX4_commit_5 : decode cX4_commit 5 = .ok (.invokestatic 100, 3) := by decide +kernel
theorem dX4_commit_8 : decode cX4_commit 8 = .ok (.ifCond .ne 7, 3) := by decide +kernel
theorem dX4_commit_11 : decode cX4_commit 11 = .ok (.iconst 1, 1) := by decide +kernel
theorem dX4_commit_12 : decode cX4_commit 12 = .ok (.goto 26, 3) := by decide +kernel
theorem dX4_commit_15 : decode cX4_commit 15 = .ok (.aload_n 0, 1) := by decide +kernel
theorem dX4_commit_16 : decode cX4_commit 16 = .ok (.getfield 59, 3) := by decide +kernel
theorem dX4_commit_19 : decode cX4_commit 19 = .ok (.iload_n 1, 1) := by decide +kernel
theorem dX4_commit_20 : decode cX4_commit 20 = .ok (.baload, 1) := by decide +kernel
theorem dX4_commit_21 : decode cX4_commit 21 = .ok (.ifCond .eq 12, 3) := by decide +kernel
theorem dX4_commit_24 : decode cX4_commit 24 = .ok (.aload_n 0, 1) := by decide +kernel
theorem dX4_commit_25 : decode cX4_commit 25 = .ok (.getfield 62, 3) := by decide +kernel
theorem dX4_commit_28 : decode cX4_commit 28 = .ok (.iload_n 1, 1) := by decide +kernel
theorem dX4_commit_29 : decode cX4_commit 29 = .ok (.baload, 1) := by decide +kernel
theorem dX4_commit_30 : decode cX4_commit 30 = .ok (.ifCond .eq 7, 3) := by decide +kernel
theorem dX4_commit_33 : decode cX4_commit 33 = .ok (.iconst 2, 1) := by decide +kernel
theorem dX4_commit_34 : decode cX4_commit 34 = .ok (.goto 4, 3) := by decide +kernel
theorem dX4_commit_37 : decode cX4_commit 37 = .ok (.iconst 0, 1) := by decide +kernel
theorem dX4_commit_38 : decode cX4_commit 38 = .ok (.invokevirtual 104, 3) := by decide +kernel
theorem dX4_commit_41 : decode cX4_commit 41 = .ok (.ifCond .eq 5, 3) := by decide +kernel
theorem dX4_commit_44 : decode cX4_commit 44 = .ok (.iconst 0, 1) := by decide +kernel
theorem dX4_commit_45 : decode cX4_commit 45 = .ok (.ireturn, 1) := by decide +kernel
theorem dX4_commit_46 : decode cX4_commit 46 = .ok (.aload_n 0, 1) := by decide +kernel
theorem dX4_commit_47 : decode cX4_commit 47 = .ok (.aload_n 0, 1) := by decide +kernel
theorem dX4_commit_48 : decode cX4_commit 48 = .ok (.iconst 2, 1) := by decide +kernel
theorem dX4_commit_49 : decode cX4_commit 49 = .ok (.iload_n 1, 1) := by decide +kernel
theorem dX4_commit_50 : decode cX4_commit 50 = .ok (.invokevirtual 122, 3) := by decide +kernel
theorem dX4_commit_53 : decode cX4_commit 53 = .ok (.putfield 72, 3) := by decide +kernel
theorem dX4_commit_56 : decode cX4_commit 56 = .ok (.aload_n 0, 1) := by decide +kernel
theorem dX4_commit_57 : decode cX4_commit 57 = .ok (.getfield 59, 3) := by decide +kernel
theorem dX4_commit_60 : decode cX4_commit 60 = .ok (.iload_n 1, 1) := by decide +kernel
theorem dX4_commit_61 : decode cX4_commit 61 = .ok (.iconst 0, 1) := by decide +kernel
theorem dX4_commit_62 : decode cX4_commit 62 = .ok (.bastore, 1) := by decide +kernel
theorem dX4_commit_63 : decode cX4_commit 63 = .ok (.aload_n 0, 1) := by decide +kernel
theorem dX4_commit_64 : decode cX4_commit 64 = .ok (.getfield 72, 3) := by decide +kernel
theorem dX4_commit_67 : decode cX4_commit 67 = .ok (.ireturn, 1) := by decide +kernel
theorem dX4_tellUndo_0 : decode cX4_tellUndo 0 = .ok (.aload_n 0, 1) := by decide +kernel
theorem dX4_tellUndo_1 : decode cX4_tellUndo 1 = .ok (.iconst 1, 1) := by decide +kernel
theorem dX4_tellUndo_2 : decode cX4_tellUndo 2 = .ok (.aload_n 0, 1) := by decide +kernel
theorem dX4_tellUndo_3 : decode cX4_tellUndo 3 = .ok (.getfield 38, 3) := by decide +kernel
theorem dX4_tellUndo_6 : decode cX4_tellUndo 6 = .ok (.iload_n 1, 1) := by decide +kernel
theorem dX4_tellUndo_7 : decode cX4_tellUndo 7 = .ok (.iaload, 1) := by decide +kernel
theorem dX4_tellUndo_8 : decode cX4_tellUndo 8 = .ok (.invokevirtual 122, 3) := by decide +kernel
theorem dX4_tellUndo_11 : decode cX4_tellUndo 11 = .ok (.istore_n 3, 1) := by decide +kernel
theorem dX4_tellUndo_12 : decode cX4_tellUndo 12 = .ok (.aload_n 0, 1) := by decide +kernel
theorem dX4_tellUndo_13 : decode cX4_tellUndo 13 = .ok (.getfield 41, 3) := by decide +kernel
theorem dX4_tellUndo_16 : decode cX4_tellUndo 16 = .ok (.iload_n 3, 1) := by decide +kernel
theorem dX4_tellUndo_17 : decode cX4_tellUndo 17 = .ok (.aload_n 0, 1) := by decide +kernel
theorem dX4_tellUndo_18 : decode cX4_tellUndo 18 = .ok (.getfield 41, 3) := by decide +kernel
theorem dX4_tellUndo_21 : decode cX4_tellUndo 21 = .ok (.iload_n 1, 1) := by decide +kernel
theorem dX4_tellUndo_22 : decode cX4_tellUndo 22 = .ok (.iaload, 1) := by decide +kernel
theorem dX4_tellUndo_23 : decode cX4_tellUndo 23 = .ok (.iastore, 1) := by decide +kernel
theorem dX4_tellUndo_24 : decode cX4_tellUndo 24 = .ok (.aload_n 0, 1) := by decide +kernel
theorem dX4_tellUndo_25 : decode cX4_tellUndo 25 = .ok (.getfield 44, 3) := by decide +kernel
theorem dX4_tellUndo_28 : decode cX4_tellUndo 28 = .ok (.iload_n 3, 1) := by decide +kernel
theorem dX4_tellUndo_29 : decode cX4_tellUndo 29 = .ok (.aload_n 0, 1) := by decide +kernel
theorem dX4_tellUndo_30 : decode cX4_tellUndo 30 = .ok (.getfield 44, 3) := by decide +kernel
theorem dX4_tellUndo_33 : decode cX4_tellUndo 33 = .ok (.iload_n 1, 1) := by decide +kernel
theorem dX4_tellUndo_34 : decode cX4_tellUndo 34 = .ok (.iaload, 1) := by decide +kernel
theorem dX4_tellUndo_35 : decode cX4_tellUndo 35 = .ok (.iastore, 1) := by decide +kernel
theorem dX4_tellUndo_36 : decode cX4_tellUndo 36 = .ok (.aload_n 0, 1) := by decide +kernel
theorem dX4_tellUndo_37 : decode cX4_tellUndo 37 = .ok (.getfield 47, 3) := by decide +kernel
theorem dX4_tellUndo_40 : decode cX4_tellUndo 40 = .ok (.iload_n 3, 1) := by decide +kernel
theorem dX4_tellUndo_41 : decode cX4_tellUndo 41 = .ok (.iload_n 2, 1) := by decide +kernel
theorem dX4_tellUndo_42 : decode cX4_tellUndo 42 = .ok (.iastore, 1) := by decide +kernel
theorem dX4_tellUndo_43 : decode cX4_tellUndo 43 = .ok (.aload_n 0, 1) := by decide +kernel
theorem dX4_tellUndo_44 : decode cX4_tellUndo 44 = .ok (.getfield 50, 3) := by decide +kernel
theorem dX4_tellUndo_47 : decode cX4_tellUndo 47 = .ok (.iload_n 3, 1) := by decide +kernel
theorem dX4_tellUndo_48 : decode cX4_tellUndo 48 = .ok (.aload_n 0, 1) := by decide +kernel
theorem dX4_tellUndo_49 : decode cX4_tellUndo 49 = .ok (.getfield 47, 3) := by decide +kernel
theorem dX4_tellUndo_52 : decode cX4_tellUndo 52 = .ok (.iload_n 1, 1) := by decide +kernel
theorem dX4_tellUndo_53 : decode cX4_tellUndo 53 = .ok (.iaload, 1) := by decide +kernel
theorem dX4_tellUndo_54 : decode cX4_tellUndo 54 = .ok (.iastore, 1) := by decide +kernel
theorem dX4_tellUndo_55 : decode cX4_tellUndo 55 = .ok (.aload_n 0, 1) := by decide +kernel
theorem dX4_tellUndo_56 : decode cX4_tellUndo 56 = .ok (.getfield 53, 3) := by decide +kernel
theorem dX4_tellUndo_59 : decode cX4_tellUndo 59 = .ok (.iload_n 3, 1) := by decide +kernel
theorem dX4_tellUndo_60 : decode cX4_tellUndo 60 = .ok (.iload_n 1, 1) := by decide +kernel
theorem dX4_tellUndo_61 : decode cX4_tellUndo 61 = .ok (.iastore, 1) := by decide +kernel
theorem dX4_tellUndo_62 : decode cX4_tellUndo 62 = .ok (.aload_n 0, 1) := by decide +kernel
theorem dX4_tellUndo_63 : decode cX4_tellUndo 63 = .ok (.getfield 56, 3) := by decide +kernel
theorem dX4_tellUndo_66 : decode cX4_tellUndo 66 = .ok (.iload_n 1, 1) := by decide +kernel
theorem dX4_tellUndo_67 : decode cX4_tellUndo 67 = .ok (.iconst 1, 1) := by decide +kernel
theorem dX4_tellUndo_68 : decode cX4_tellUndo 68 = .ok (.bastore, 1) := by decide +kernel
theorem dX4_tellUndo_69 : decode cX4_tellUndo 69 = .ok (.iload_n 3, 1) := by decide +kernel
theorem dX4_tellUndo_70 : decode cX4_tellUndo 70 = .ok (.ireturn, 1) := by decide +kernel
theorem dX4_abort_0 : decode cX4_abort 0 = .ok (.aload_n 0, 1) := by decide +kernel
theorem dX4_abort_1 : decode cX4_abort 1 = .ok (.iload_n 1, 1) := by decide +kernel
theorem dX4_abort_2 : decode cX4_abort 2 = .ok (.iconst 0, 1) := by decide +kernel
theorem dX4_abort_3 : decode cX4_abort 3 = .ok (.bipush 7, 2) := by decide +kernel
theorem dX4_abort_5 : decode cX4_abort 5 = .ok (.invokestatic 100, 3) := by decide +kernel
theorem dX4_abort_8 : decode cX4_abort 8 = .ok (.ifCond .ne 7, 3) := by decide +kernel
theorem dX4_abort_11 : decode cX4_abort 11 = .ok (.iconst 1, 1) := by decide +kernel
theorem dX4_abort_12 : decode cX4_abort 12 = .ok (.goto 17, 3) := by decide +kernel
theorem dX4_abort_15 : decode cX4_abort 15 = .ok (.aload_n 0, 1) := by decide +kernel
theorem dX4_abort_16 : decode cX4_abort 16 = .ok (.getfield 59, 3) := by decide +kernel
theorem dX4_abort_19 : decode cX4_abort 19 = .ok (.iload_n 1, 1) := by decide +kernel
theorem dX4_abort_20 : decode cX4_abort 20 = .ok (.baload, 1) := by decide +kernel
theorem dX4_abort_21 : decode cX4_abort 21 = .ok (.ifCond .ne 7, 3) := by decide +kernel
theorem dX4_abort_24 : decode cX4_abort 24 = .ok (.iconst 2, 1) := by decide +kernel
theorem dX4_abort_25 : decode cX4_abort 25 = .ok (.goto 4, 3) := by decide +kernel
theorem dX4_abort_28 : decode cX4_abort 28 = .ok (.iconst 0, 1) := by decide +kernel
theorem dX4_abort_29 : decode cX4_abort 29 = .ok (.invokevirtual 104, 3) := by decide +kernel
theorem dX4_abort_32 : decode cX4_abort 32 = .ok (.ifCond .eq 5, 3) := by decide +kernel
theorem dX4_abort_35 : decode cX4_abort 35 = .ok (.iconst 0, 1) := by decide +kernel
theorem dX4_abort_36 : decode cX4_abort 36 = .ok (.ireturn, 1) := by decide +kernel
theorem dX4_abort_37 : decode cX4_abort 37 = .ok (.aload_n 0, 1) := by decide +kernel
theorem dX4_abort_38 : decode cX4_abort 38 = .ok (.getfield 62, 3) := by decide +kernel
theorem dX4_abort_41 : decode cX4_abort 41 = .ok (.iload_n 1, 1) := by decide +kernel
theorem dX4_abort_42 : decode cX4_abort 42 = .ok (.iconst 1, 1) := by decide +kernel
theorem dX4_abort_43 : decode cX4_abort 43 = .ok (.bastore, 1) := by decide +kernel
theorem dX4_abort_44 : decode cX4_abort 44 = .ok (.iconst 0, 1) := by decide +kernel
theorem dX4_abort_45 : decode cX4_abort 45 = .ok (.istore_n 2, 1) := by decide +kernel
theorem dX4_abort_46 : decode cX4_abort 46 = .ok (.aload_n 0, 1) := by decide +kernel
theorem dX4_abort_47 : decode cX4_abort 47 = .ok (.iload_n 1, 1) := by decide +kernel
theorem dX4_abort_48 : decode cX4_abort 48 = .ok (.invokevirtual 126, 3) := by decide +kernel
theorem dX4_abort_51 : decode cX4_abort 51 = .ok (.istore_n 3, 1) := by decide +kernel
theorem dX4_abort_52 : decode cX4_abort 52 = .ok (.iload_n 3, 1) := by decide +kernel
theorem dX4_abort_53 : decode cX4_abort 53 = .ok (.ifCond .le 89, 3) := by decide +kernel
theorem dX4_abort_56 : decode cX4_abort 56 = .ok (.aload_n 0, 1) := by decide +kernel
theorem dX4_abort_57 : decode cX4_abort 57 = .ok (.aload_n 0, 1) := by decide +kernel
theorem dX4_abort_58 : decode cX4_abort 58 = .ok (.getfield 41, 3) := by decide +kernel
theorem dX4_abort_61 : decode cX4_abort 61 = .ok (.iload_n 3, 1) := by decide +kernel
theorem dX4_abort_62 : decode cX4_abort 62 = .ok (.iaload, 1) := by decide +kernel
theorem dX4_abort_63 : decode cX4_abort 63 = .ok (.invokevirtual 107, 3) := by decide +kernel
theorem dX4_abort_66 : decode cX4_abort 66 = .ok (.istore 4, 2) := by decide +kernel
theorem dX4_abort_68 : decode cX4_abort 68 = .ok (.iload 4, 2) := by decide +kernel
theorem dX4_abort_70 : decode cX4_abort 70 = .ok (.ifCond .ge 6, 3) := by decide +kernel
theorem dX4_abort_73 : decode cX4_abort 73 = .ok (.bipush (-2), 2) := by decide +kernel
theorem dX4_abort_75 : decode cX4_abort 75 = .ok (.ireturn, 1) := by decide +kernel
theorem dX4_abort_76 : decode cX4_abort 76 = .ok (.bipush 8, 2) := by decide +kernel
theorem dX4_abort_78 : decode cX4_abort 78 = .ok (.iload 4, 2) := by decide +kernel
theorem dX4_abort_80 : decode cX4_abort 80 = .ok (.imul, 1) := by decide +kernel
theorem dX4_abort_81 : decode cX4_abort 81 = .ok (.aload_n 0, 1) := by decide +kernel
theorem dX4_abort_82 : decode cX4_abort 82 = .ok (.getfield 44, 3) := by decide +kernel
theorem dX4_abort_85 : decode cX4_abort 85 = .ok (.iload_n 3, 1) := by decide +kernel
theorem dX4_abort_86 : decode cX4_abort 86 = .ok (.iaload, 1) := by decide +kernel
theorem dX4_abort_87 : decode cX4_abort 87 = .ok (.iadd, 1) := by decide +kernel
theorem dX4_abort_88 : decode cX4_abort 88 = .ok (.istore 5, 2) := by decide +kernel
theorem dX4_abort_90 : decode cX4_abort 90 = .ok (.aload_n 0, 1) := by decide +kernel
theorem dX4_abort_91 : decode cX4_abort 91 = .ok (.getfield 22, 3) := by decide +kernel
theorem dX4_abort_94 : decode cX4_abort 94 = .ok (.iload 4, 2) := by decide +kernel
theorem dX4_abort_96 : decode cX4_abort 96 = .ok (.aload_n 0, 1) := by decide +kernel
theorem dX4_abort_97 : decode cX4_abort 97 = .ok (.iload_n 3, 1) := by decide +kernel
theorem dX4_abort_98 : decode cX4_abort 98 = .ok (.aload_n 0, 1) := by decide +kernel
theorem dX4_abort_99 : decode cX4_abort 99 = .ok (.getfield 19, 3) := by decide +kernel
theorem dX4_abort_102 : decode cX4_abort 102 = .ok (.iload 5, 2) := by decide +kernel
theorem dX4_abort_104 : decode cX4_abort 104 = .ok (.iaload, 1) := by decide +kernel
theorem dX4_abort_105 : decode cX4_abort 105 = .ok (.invokevirtual 129, 3) := by decide +kernel
theorem dX4_abort_108 : decode cX4_abort 108 = .ok (.iastore, 1) := by decide +kernel
theorem dX4_abort_109 : decode cX4_abort 109 = .ok (.aload_n 0, 1) := by decide +kernel
theorem dX4_abort_110 : decode cX4_abort 110 = .ok (.getfield 19, 3) := by decide +kernel
theorem dX4_abort_113 : decode cX4_abort 113 = .ok (.iload 5, 2) := by decide +kernel
theorem dX4_abort_115 : decode cX4_abort 115 = .ok (.aload_n 0, 1) := by decide +kernel
theorem dX4_abort_116 : decode cX4_abort 116 = .ok (.getfield 47, 3) := by decide +kernel
theorem dX4_abort_119 : decode cX4_abort 119 = .ok (.iload_n 3, 1) := by decide +kernel
theorem dX4_abort_120 : decode cX4_abort 120 = .ok (.iaload, 1) := by decide +kernel
theorem dX4_abort_121 : decode cX4_abort 121 = .ok (.iastore, 1) := by decide +kernel
theorem dX4_abort_122 : decode cX4_abort 122 = .ok (.aload_n 0, 1) := by decide +kernel
theorem dX4_abort_123 : decode cX4_abort 123 = .ok (.getfield 28, 3) := by decide +kernel
theorem dX4_abort_126 : decode cX4_abort 126 = .ok (.iload 4, 2) := by decide +kernel
theorem dX4_abort_128 : decode cX4_abort 128 = .ok (.iconst 1, 1) := by decide +kernel
theorem dX4_abort_129 : decode cX4_abort 129 = .ok (.bastore, 1) := by decide +kernel
theorem dX4_abort_130 : decode cX4_abort 130 = .ok (.iinc 2 1, 3) := by decide +kernel
theorem dX4_abort_133 : decode cX4_abort 133 = .ok (.aload_n 0, 1) := by decide +kernel
theorem dX4_abort_134 : decode cX4_abort 134 = .ok (.iload_n 1, 1) := by decide +kernel
theorem dX4_abort_135 : decode cX4_abort 135 = .ok (.invokevirtual 126, 3) := by decide +kernel
theorem dX4_abort_138 : decode cX4_abort 138 = .ok (.istore_n 3, 1) := by decide +kernel
theorem dX4_abort_139 : decode cX4_abort 139 = .ok (.goto (-87), 3) := by decide +kernel
theorem dX4_abort_142 : decode cX4_abort 142 = .ok (.aload_n 0, 1) := by decide +kernel
theorem dX4_abort_143 : decode cX4_abort 143 = .ok (.iconst 3, 1) := by decide +kernel
theorem dX4_abort_144 : decode cX4_abort 144 = .ok (.iload_n 1, 1) := by decide +kernel
theorem dX4_abort_145 : decode cX4_abort 145 = .ok (.invokevirtual 122, 3) := by decide +kernel
theorem dX4_abort_148 : decode cX4_abort 148 = .ok (.istore_n 3, 1) := by decide +kernel
theorem dX4_abort_149 : decode cX4_abort 149 = .ok (.aload_n 0, 1) := by decide +kernel
theorem dX4_abort_150 : decode cX4_abort 150 = .ok (.getfield 59, 3) := by decide +kernel
theorem dX4_abort_153 : decode cX4_abort 153 = .ok (.iload_n 1, 1) := by decide +kernel
theorem dX4_abort_154 : decode cX4_abort 154 = .ok (.iconst 0, 1) := by decide +kernel
theorem dX4_abort_155 : decode cX4_abort 155 = .ok (.bastore, 1) := by decide +kernel
theorem dX4_abort_156 : decode cX4_abort 156 = .ok (.aload_n 0, 1) := by decide +kernel
theorem dX4_abort_157 : decode cX4_abort 157 = .ok (.getfield 62, 3) := by decide +kernel
theorem dX4_abort_160 : decode cX4_abort 160 = .ok (.iload_n 1, 1) := by decide +kernel
theorem dX4_abort_161 : decode cX4_abort 161 = .ok (.iload_n 3, 1) := by decide +kernel
theorem dX4_abort_162 : decode cX4_abort 162 = .ok (.ifCond .ge 7, 3) := by decide +kernel
theorem dX4_abort_165 : decode cX4_abort 165 = .ok (.iconst 1, 1) := by decide +kernel
theorem dX4_abort_166 : decode cX4_abort 166 = .ok (.goto 4, 3) := by decide +kernel
theorem dX4_abort_169 : decode cX4_abort 169 = .ok (.iconst 0, 1) := by decide +kernel
theorem dX4_abort_170 : decode cX4_abort 170 = .ok (.bastore, 1) := by decide +kernel
theorem dX4_abort_171 : decode cX4_abort 171 = .ok (.iload_n 2, 1) := by decide +kernel
theorem dX4_abort_172 : decode cX4_abort 172 = .ok (.ireturn, 1) := by decide +kernel
theorem dX4_flush_0 : decode cX4_flush 0 = .ok (.aload_n 0, 1) := by decide +kernel
theorem dX4_flush_1 : decode cX4_flush 1 = .ok (.iload_n 1, 1) := by decide +kernel
theorem dX4_flush_2 : decode cX4_flush 2 = .ok (.ifCond .ge 7, 3) := by decide +kernel
theorem dX4_flush_5 : decode cX4_flush 5 = .ok (.iconst 1, 1) := by decide +kernel
theorem dX4_flush_6 : decode cX4_flush 6 = .ok (.goto 4, 3) := by decide +kernel
theorem dX4_flush_9 : decode cX4_flush 9 = .ok (.iconst 0, 1) := by decide +kernel
theorem dX4_flush_10 : decode cX4_flush 10 = .ok (.invokevirtual 104, 3) := by decide +kernel
theorem dX4_flush_13 : decode cX4_flush 13 = .ok (.ifCond .eq 5, 3) := by decide +kernel
theorem dX4_flush_16 : decode cX4_flush 16 = .ok (.iconst 0, 1) := by decide +kernel
theorem dX4_flush_17 : decode cX4_flush 17 = .ok (.ireturn, 1) := by decide +kernel
theorem dX4_flush_18 : decode cX4_flush 18 = .ok (.iload_n 1, 1) := by decide +kernel
theorem dX4_flush_19 : decode cX4_flush 19 = .ok (.aload_n 0, 1) := by decide +kernel
theorem dX4_flush_20 : decode cX4_flush 20 = .ok (.getfield 113, 3) := by decide +kernel
theorem dX4_flush_23 : decode cX4_flush 23 = .ok (.if_icmp .ge 7, 3) := by decide +kernel
theorem dX4_flush_26 : decode cX4_flush 26 = .ok (.iload_n 1, 1) := by decide +kernel
theorem dX4_flush_27 : decode cX4_flush 27 = .ok (.goto 7, 3) := by decide +kernel
theorem dX4_flush_30 : decode cX4_flush 30 = .ok (.aload_n 0, 1) := by decide +kernel
theorem dX4_flush_31 : decode cX4_flush 31 = .ok (.getfield 113, 3) := by decide +kernel
theorem dX4_flush_34 : decode cX4_flush 34 = .ok (.istore_n 2, 1) := by decide +kernel
theorem dX4_flush_35 : decode cX4_flush 35 = .ok (.aload_n 0, 1) := by decide +kernel
theorem dX4_flush_36 : decode cX4_flush 36 = .ok (.iload_n 2, 1) := by decide +kernel
theorem dX4_flush_37 : decode cX4_flush 37 = .ok (.aload_n 0, 1) := by decide +kernel
theorem dX4_flush_38 : decode cX4_flush 38 = .ok (.getfield 72, 3) := by decide +kernel
theorem dX4_flush_41 : decode cX4_flush 41 = .ok (.if_icmp .le 7, 3) := by decide +kernel
theorem dX4_flush_44 : decode cX4_flush 44 = .ok (.iload_n 2, 1) := by decide +kernel
theorem dX4_flush_45 : decode cX4_flush 45 = .ok (.goto 7, 3) := by decide +kernel
theorem dX4_flush_48 : decode cX4_flush 48 = .ok (.aload_n 0, 1) := by decide +kernel
theorem dX4_flush_49 : decode cX4_flush 49 = .ok (.getfield 72, 3) := by decide +kernel
theorem dX4_flush_52 : decode cX4_flush 52 = .ok (.putfield 72, 3) := by decide +kernel
theorem dX4_flush_55 : decode cX4_flush 55 = .ok (.aload_n 0, 1) := by decide +kernel
theorem dX4_flush_56 : decode cX4_flush 56 = .ok (.getfield 72, 3) := by decide +kernel
theorem dX4_flush_59 : decode cX4_flush 59 = .ok (.ireturn, 1) := by decide +kernel
theorem dX4_clean_0 : decode cX4_clean 0 = .ok (.aload_n 0, 1) := by decide +kernel
theorem dX4_clean_1 : decode cX4_clean 1 = .ok (.iload_n 1, 1) := by decide +kernel
theorem dX4_clean_2 : decode cX4_clean 2 = .ok (.iconst 0, 1) := by decide +kernel
theorem dX4_clean_3 : decode cX4_clean 3 = .ok (.bipush 31, 2) := by decide +kernel
theorem dX4_clean_5 : decode cX4_clean 5 = .ok (.invokestatic 100, 3) := by decide +kernel
theorem dX4_clean_8 : decode cX4_clean 8 = .ok (.ifCond .eq 7, 3) := by decide +kernel
theorem dX4_clean_11 : decode cX4_clean 11 = .ok (.iconst 0, 1) := by decide +kernel
theorem dX4_clean_12 : decode cX4_clean 12 = .ok (.goto 4, 3) := by decide +kernel
theorem dX4_clean_15 : decode cX4_clean 15 = .ok (.iconst 1, 1) := by decide +kernel
theorem dX4_clean_16 : decode cX4_clean 16 = .ok (.invokevirtual 104, 3) := by decide +kernel
theorem dX4_clean_19 : decode cX4_clean 19 = .ok (.ifCond .eq 5, 3) := by decide +kernel
theorem dX4_clean_22 : decode cX4_clean 22 = .ok (.iconst 0, 1) := by decide +kernel
theorem dX4_clean_23 : decode cX4_clean 23 = .ok (.ireturn, 1) := by decide +kernel
theorem dX4_clean_24 : decode cX4_clean 24 = .ok (.aload_n 0, 1) := by decide +kernel
theorem dX4_clean_25 : decode cX4_clean 25 = .ok (.iload_n 1, 1) := by decide +kernel
theorem dX4_clean_26 : decode cX4_clean 26 = .ok (.invokevirtual 89, 3) := by decide +kernel
theorem dX4_clean_29 : decode cX4_clean 29 = .ok (.istore_n 2, 1) := by decide +kernel
theorem dX4_clean_30 : decode cX4_clean 30 = .ok (.iload_n 2, 1) := by decide +kernel
theorem dX4_clean_31 : decode cX4_clean 31 = .ok (.ifCond .lt 25, 3) := by decide +kernel
theorem dX4_clean_34 : decode cX4_clean 34 = .ok (.aload_n 0, 1) := by decide +kernel
theorem dX4_clean_35 : decode cX4_clean 35 = .ok (.getfield 28, 3) := by decide +kernel
theorem dX4_clean_38 : decode cX4_clean 38 = .ok (.iload_n 2, 1) := by decide +kernel
theorem dX4_clean_39 : decode cX4_clean 39 = .ok (.baload, 1) := by decide +kernel
theorem dX4_clean_40 : decode cX4_clean 40 = .ok (.ifCond .eq 16, 3) := by decide +kernel
theorem dX4_clean_43 : decode cX4_clean 43 = .ok (.aload_n 0, 1) := by decide +kernel
theorem dX4_clean_44 : decode cX4_clean 44 = .ok (.getfield 22, 3) := by decide +kernel
theorem dX4_clean_47 : decode cX4_clean 47 = .ok (.iload_n 2, 1) := by decide +kernel
theorem dX4_clean_48 : decode cX4_clean 48 = .ok (.iaload, 1) := by decide +kernel
theorem dX4_clean_49 : decode cX4_clean 49 = .ok (.aload_n 0, 1) := by decide +kernel
theorem dX4_clean_50 : decode cX4_clean 50 = .ok (.getfield 72, 3) := by decide +kernel
theorem dX4_clean_53 : decode cX4_clean 53 = .ok (.if_icmp .le 5, 3) := by decide +kernel
theorem dX4_clean_56 : decode cX4_clean 56 = .ok (.iconst 0, 1) := by decide +kernel
theorem dX4_clean_57 : decode cX4_clean 57 = .ok (.ireturn, 1) := by decide +kernel
theorem dX4_clean_58 : decode cX4_clean 58 = .ok (.aload_n 0, 1) := by decide +kernel
theorem dX4_clean_59 : decode cX4_clean 59 = .ok (.iload_n 2, 1) := by decide +kernel
theorem dX4_clean_60 : decode cX4_clean 60 = .ok (.invokevirtual 85, 3) := by decide +kernel
theorem dX4_clean_63 : decode cX4_clean 63 = .ok (.iconst 1, 1) := by decide +kernel
theorem dX4_clean_64 : decode cX4_clean 64 = .ok (.ireturn, 1) := by decide +kernel
theorem dX4_loseRecords_0 : decode cX4_loseRecords 0 = .ok (.aload_n 0, 1) := by decide +kernel
theorem dX4_loseRecords_1 : decode cX4_loseRecords 1 = .ok (.getfield 72, 3) := by decide +kernel
theorem dX4_loseRecords_4 : decode cX4_loseRecords 4 = .ok (.iconst 1, 1) := by decide +kernel
theorem dX4_loseRecords_5 : decode cX4_loseRecords 5 = .ok (.iadd, 1) := by decide +kernel
theorem dX4_loseRecords_6 : decode cX4_loseRecords 6 = .ok (.istore_n 1, 1) := by decide +kernel
theorem dX4_loseRecords_7 : decode cX4_loseRecords 7 = .ok (.iload_n 1, 1) := by decide +kernel
theorem dX4_loseRecords_8 : decode cX4_loseRecords 8 = .ok (.aload_n 0, 1) := by decide +kernel
theorem dX4_loseRecords_9 : decode cX4_loseRecords 9 = .ok (.getfield 113, 3) := by decide +kernel
theorem dX4_loseRecords_12 : decode cX4_loseRecords 12 = .ok (.if_icmp .gt 31, 3) := by decide +kernel
theorem dX4_loseRecords_15 : decode cX4_loseRecords 15 = .ok (.aload_n 0, 1) := by decide +kernel
theorem dX4_loseRecords_16 : decode cX4_loseRecords 16 = .ok (.getfield 35, 3) := by decide +kernel
theorem dX4_loseRecords_19 : decode cX4_loseRecords 19 = .ok (.iload_n 1, 1) := by decide +kernel
theorem dX4_loseRecords_20 : decode cX4_loseRecords 20 = .ok (.iaload, 1) := by decide +kernel
theorem dX4_loseRecords_21 : decode cX4_loseRecords 21 = .ok (.iconst 1, 1) := by decide +kernel
theorem dX4_loseRecords_22 : decode cX4_loseRecords 22 = .ok (.if_icmp .ne 15, 3) := by decide +kernel
theorem dX4_loseRecords_25 : decode cX4_loseRecords 25 = .ok (.aload_n 0, 1) := by decide +kernel
theorem dX4_loseRecords_26 : decode cX4_loseRecords 26 = .ok (.getfield 56, 3) := by decide +kernel
theorem dX4_loseRecords_29 : decode cX4_loseRecords 29 = .ok (.aload_n 0, 1) := by decide +kernel
theorem dX4_loseRecords_30 : decode cX4_loseRecords 30 = .ok (.getfield 53, 3) := by decide +kernel
theorem dX4_loseRecords_33 : decode cX4_loseRecords 33 = .ok (.iload_n 1, 1) := by decide +kernel
theorem dX4_loseRecords_34 : decode cX4_loseRecords 34 = .ok (.iaload, 1) := by decide +kernel
theorem dX4_loseRecords_35 : decode cX4_loseRecords 35 = .ok (.iconst 0, 1) := by decide +kernel
theorem dX4_loseRecords_36 : decode cX4_loseRecords 36 = .ok (.bastore, 1) := by decide +kernel
theorem dX4_loseRecords_37 : decode cX4_loseRecords 37 = .ok (.iinc 1 1, 3) := by decide +kernel
theorem dX4_loseRecords_40 : decode cX4_loseRecords 40 = .ok (.goto (-33), 3) := by decide +kernel
theorem dX4_loseRecords_43 : decode cX4_loseRecords 43 = .ok (.aload_n 0, 1) := by decide +kernel
theorem dX4_loseRecords_44 : decode cX4_loseRecords 44 = .ok (.aload_n 0, 1) := by decide +kernel
theorem dX4_loseRecords_45 : decode cX4_loseRecords 45 = .ok (.getfield 72, 3) := by decide +kernel
theorem dX4_loseRecords_48 : decode cX4_loseRecords 48 = .ok (.putfield 113, 3) := by decide +kernel
theorem dX4_loseRecords_51 : decode cX4_loseRecords 51 = .ok (.return_, 1) := by decide +kernel
theorem dX4_redo_0 : decode cX4_redo 0 = .ok (.iconst 1, 1) := by decide +kernel
theorem dX4_redo_1 : decode cX4_redo 1 = .ok (.istore_n 1, 1) := by decide +kernel
theorem dX4_redo_2 : decode cX4_redo 2 = .ok (.iload_n 1, 1) := by decide +kernel
theorem dX4_redo_3 : decode cX4_redo 3 = .ok (.aload_n 0, 1) := by decide +kernel
theorem dX4_redo_4 : decode cX4_redo 4 = .ok (.getfield 113, 3) := by decide +kernel
theorem dX4_redo_7 : decode cX4_redo 7 = .ok (.if_icmp .gt 73, 3) := by decide +kernel
theorem dX4_redo_10 : decode cX4_redo 10 = .ok (.aload_n 0, 1) := by decide +kernel
theorem dX4_redo_11 : decode cX4_redo 11 = .ok (.getfield 35, 3) := by decide +kernel
theorem dX4_redo_14 : decode cX4_redo 14 = .ok (.iload_n 1, 1) := by decide +kernel
theorem dX4_redo_15 : decode cX4_redo 15 = .ok (.iaload, 1) := by decide +kernel
theorem dX4_redo_16 : decode cX4_redo 16 = .ok (.iconst 2, 1) := by decide +kernel
theorem dX4_redo_17 : decode cX4_redo 17 = .ok (.if_icmp .ge 57, 3) := by decide +kernel
theorem dX4_redo_20 : decode cX4_redo 20 = .ok (.iload_n 1, 1) := by decide +kernel
theorem dX4_redo_21 : decode cX4_redo 21 = .ok (.aload_n 0, 1) := by decide +kernel
theorem dX4_redo_22 : decode cX4_redo 22 = .ok (.getfield 13, 3) := by decide +kernel
theorem dX4_redo_25 : decode cX4_redo 25 = .ok (.aload_n 0, 1) := by decide +kernel
theorem dX4_redo_26 : decode cX4_redo 26 = .ok (.getfield 41, 3) := by decide +kernel
theorem dX4_redo_29 : decode cX4_redo 29 = .ok (.iload_n 1, 1) := by decide +kernel
theorem dX4_redo_30 : decode cX4_redo 30 = .ok (.iaload, 1) := by decide +kernel
theorem dX4_redo_31 : decode cX4_redo 31 = .ok (.iaload, 1) := by decide +kernel
theorem dX4_redo_32 : decode cX4_redo 32 = .ok (.if_icmp .le 42, 3) := by decide +kernel
theorem dX4_redo_35 : decode cX4_redo 35 = .ok (.aload_n 0, 1) := by decide +kernel
theorem dX4_redo_36 : decode cX4_redo 36 = .ok (.getfield 7, 3) := by decide +kernel
theorem dX4_redo_39 : decode cX4_redo 39 = .ok (.bipush 8, 2) := by decide +kernel
theorem dX4_redo_41 : decode cX4_redo 41 = .ok (.aload_n 0, 1) := by decide +kernel
theorem dX4_redo_42 : decode cX4_redo 42 = .ok (.getfield 41, 3) := by decide +kernel
theorem dX4_redo_45 : decode cX4_redo 45 = .ok (.iload_n 1, 1) := by decide +kernel
theorem dX4_redo_46 : decode cX4_redo 46 = .ok (.iaload, 1) := by decide +kernel
theorem dX4_redo_47 : decode cX4_redo 47 = .ok (.imul, 1) := by decide +kernel
theorem dX4_redo_48 : decode cX4_redo 48 = .ok (.aload_n 0, 1) := by decide +kernel
theorem dX4_redo_49 : decode cX4_redo 49 = .ok (.getfield 44, 3) := by decide +kernel
theorem dX4_redo_52 : decode cX4_redo 52 = .ok (.iload_n 1, 1) := by decide +kernel
theorem dX4_redo_53 : decode cX4_redo 53 = .ok (.iaload, 1) := by decide +kernel
theorem dX4_redo_54 : decode cX4_redo 54 = .ok (.iadd, 1) := by decide +kernel
theorem dX4_redo_55 : decode cX4_redo 55 = .ok (.aload_n 0, 1) := by decide +kernel
theorem dX4_redo_56 : decode cX4_redo 56 = .ok (.getfield 50, 3) := by decide +kernel
theorem dX4_redo_59 : decode cX4_redo 59 = .ok (.iload_n 1, 1) := by decide +kernel
theorem dX4_redo_60 : decode cX4_redo 60 = .ok (.iaload, 1) := by decide +kernel
theorem dX4_redo_61 : decode cX4_redo 61 = .ok (.iastore, 1) := by decide +kernel
theorem dX4_redo_62 : decode cX4_redo 62 = .ok (.aload_n 0, 1) := by decide +kernel
theorem dX4_redo_63 : decode cX4_redo 63 = .ok (.getfield 13, 3) := by decide +kernel
theorem dX4_redo_66 : decode cX4_redo 66 = .ok (.aload_n 0, 1) := by decide +kernel
theorem dX4_redo_67 : decode cX4_redo 67 = .ok (.getfield 41, 3) := by decide +kernel
theorem dX4_redo_70 : decode cX4_redo 70 = .ok (.iload_n 1, 1) := by decide +kernel
theorem dX4_redo_71 : decode cX4_redo 71 = .ok (.iaload, 1) := by decide +kernel
theorem dX4_redo_72 : decode cX4_redo 72 = .ok (.iload_n 1, 1) := by decide +kernel
theorem dX4_redo_73 : decode cX4_redo 73 = .ok (.iastore, 1) := by decide +kernel
theorem dX4_redo_74 : decode cX4_redo 74 = .ok (.iinc 1 1, 3) := by decide +kernel
theorem dX4_redo_77 : decode cX4_redo 77 = .ok (.goto (-75), 3) := by decide +kernel
theorem dX4_redo_80 : decode cX4_redo 80 = .ok (.return_, 1) := by decide +kernel
theorem dX4_isOpen_0 : decode cX4_isOpen 0 = .ok (.iconst 0, 1) := by decide +kernel
theorem dX4_isOpen_1 : decode cX4_isOpen 1 = .ok (.istore_n 2, 1) := by decide +kernel
theorem dX4_isOpen_2 : decode cX4_isOpen 2 = .ok (.iconst 1, 1) := by decide +kernel
theorem dX4_isOpen_3 : decode cX4_isOpen 3 = .ok (.istore_n 3, 1) := by decide +kernel
theorem dX4_isOpen_4 : decode cX4_isOpen 4 = .ok (.iload_n 3, 1) := by decide +kernel
theorem dX4_isOpen_5 : decode cX4_isOpen 5 = .ok (.aload_n 0, 1) := by decide +kernel
theorem dX4_isOpen_6 : decode cX4_isOpen 6 = .ok (.getfield 113, 3) := by decide +kernel
theorem dX4_isOpen_9 : decode cX4_isOpen 9 = .ok (.if_icmp .gt 35, 3) := by decide +kernel
theorem dX4_isOpen_12 : decode cX4_isOpen 12 = .ok (.aload_n 0, 1) := by decide +kernel
theorem dX4_isOpen_13 : decode cX4_isOpen 13 = .ok (.getfield 38, 3) := by decide +kernel
theorem dX4_isOpen_16 : decode cX4_isOpen 16 = .ok (.iload_n 3, 1) := by decide +kernel
theorem dX4_isOpen_17 : decode cX4_isOpen 17 = .ok (.iaload, 1) := by decide +kernel
theorem dX4_isOpen_18 : decode cX4_isOpen 18 = .ok (.iload_n 1, 1) := by decide +kernel
theorem dX4_isOpen_19 : decode cX4_isOpen 19 = .ok (.if_icmp .ne 19, 3) := by decide +kernel
theorem dX4_isOpen_22 : decode cX4_isOpen 22 = .ok (.aload_n 0, 1) := by decide +kernel
theorem dX4_isOpen_23 : decode cX4_isOpen 23 = .ok (.getfield 35, 3) := by decide +kernel
theorem dX4_isOpen_26 : decode cX4_isOpen 26 = .ok (.iload_n 3, 1) := by decide +kernel
theorem dX4_isOpen_27 : decode cX4_isOpen 27 = .ok (.iaload, 1) := by decide +kernel
theorem dX4_isOpen_28 : decode cX4_isOpen 28 = .ok (.iconst 2, 1) := by decide +kernel
theorem dX4_isOpen_29 : decode cX4_isOpen 29 = .ok (.if_icmp .ge 7, 3) := by decide +kernel
theorem dX4_isOpen_32 : decode cX4_isOpen 32 = .ok (.iconst 1, 1) := by decide +kernel
theorem dX4_isOpen_33 : decode cX4_isOpen 33 = .ok (.goto 4, 3) := by decide +kernel
theorem dX4_isOpen_36 : decode cX4_isOpen 36 = .ok (.iconst 0, 1) := by decide +kernel
theorem dX4_isOpen_37 : decode cX4_isOpen 37 = .ok (.istore_n 2, 1) := by decide +kernel
theorem dX4_isOpen_38 : decode cX4_isOpen 38 = .ok (.iinc 3 1, 3) := by decide +kernel
theorem dX4_isOpen_41 : decode cX4_isOpen 41 = .ok (.goto (-37), 3) := by decide +kernel
theorem dX4_isOpen_44 : decode cX4_isOpen 44 = .ok (.iload_n 2, 1) := by decide +kernel
theorem dX4_isOpen_45 : decode cX4_isOpen 45 = .ok (.ireturn, 1) := by decide +kernel
theorem dX4_crash_0 : decode cX4_crash 0 = .ok (.aload_n 0, 1) := by decide +kernel
theorem dX4_crash_1 : decode cX4_crash 1 = .ok (.iconst 0, 1) := by decide +kernel
theorem dX4_crash_2 : decode cX4_crash 2 = .ok (.putfield 69, 3) := by decide +kernel
theorem dX4_crash_5 : decode cX4_crash 5 = .ok (.aload_n 0, 1) := by decide +kernel
theorem dX4_crash_6 : decode cX4_crash 6 = .ok (.getfield 113, 3) := by decide +kernel
theorem dX4_crash_9 : decode cX4_crash 9 = .ok (.aload_n 0, 1) := by decide +kernel
theorem dX4_crash_10 : decode cX4_crash 10 = .ok (.getfield 72, 3) := by decide +kernel
theorem dX4_crash_13 : decode cX4_crash 13 = .ok (.isub, 1) := by decide +kernel
theorem dX4_crash_14 : decode cX4_crash 14 = .ok (.istore_n 1, 1) := by decide +kernel
theorem dX4_crash_15 : decode cX4_crash 15 = .ok (.aload_n 0, 1) := by decide +kernel
theorem dX4_crash_16 : decode cX4_crash 16 = .ok (.invokevirtual 132, 3) := by decide +kernel
theorem dX4_crash_19 : decode cX4_crash 19 = .ok (.iconst 0, 1) := by decide +kernel
theorem dX4_crash_20 : decode cX4_crash 20 = .ok (.istore_n 2, 1) := by decide +kernel
theorem dX4_crash_21 : decode cX4_crash 21 = .ok (.iload_n 2, 1) := by decide +kernel
theorem dX4_crash_22 : decode cX4_crash 22 = .ok (.bipush 8, 2) := by decide +kernel
theorem dX4_crash_24 : decode cX4_crash 24 = .ok (.if_icmp .ge 44, 3) := by decide +kernel
theorem dX4_crash_27 : decode cX4_crash 27 = .ok (.aload_n 0, 1) := by decide +kernel
theorem dX4_crash_28 : decode cX4_crash 28 = .ok (.getfield 16, 3) := by decide +kernel
theorem dX4_crash_31 : decode cX4_crash 31 = .ok (.iload_n 2, 1) := by decide +kernel
theorem dX4_crash_32 : decode cX4_crash 32 = .ok (.iconst (-1), 1) := by decide +kernel
theorem dX4_crash_33 : decode cX4_crash 33 = .ok (.iastore, 1) := by decide +kernel
theorem dX4_crash_34 : decode cX4_crash 34 = .ok (.aload_n 0, 1) := by decide +kernel
theorem dX4_crash_35 : decode cX4_crash 35 = .ok (.getfield 25, 3) := by decide +kernel
theorem dX4_crash_38 : decode cX4_crash 38 = .ok (.iload_n 2, 1) := by decide +kernel
theorem dX4_crash_39 : decode cX4_crash 39 = .ok (.iconst 0, 1) := by decide +kernel
theorem dX4_crash_40 : decode cX4_crash 40 = .ok (.iastore, 1) := by decide +kernel
theorem dX4_crash_41 : decode cX4_crash 41 = .ok (.aload_n 0, 1) := by decide +kernel
theorem dX4_crash_42 : decode cX4_crash 42 = .ok (.getfield 28, 3) := by decide +kernel
theorem dX4_crash_45 : decode cX4_crash 45 = .ok (.iload_n 2, 1) := by decide +kernel
theorem dX4_crash_46 : decode cX4_crash 46 = .ok (.iconst 0, 1) := by decide +kernel
theorem dX4_crash_47 : decode cX4_crash 47 = .ok (.bastore, 1) := by decide +kernel
theorem dX4_crash_48 : decode cX4_crash 48 = .ok (.aload_n 0, 1) := by decide +kernel
theorem dX4_crash_49 : decode cX4_crash 49 = .ok (.getfield 32, 3) := by decide +kernel
theorem dX4_crash_52 : decode cX4_crash 52 = .ok (.iload_n 2, 1) := by decide +kernel
theorem dX4_crash_53 : decode cX4_crash 53 = .ok (.iconst 0, 1) := by decide +kernel
theorem dX4_crash_54 : decode cX4_crash 54 = .ok (.bastore, 1) := by decide +kernel
theorem dX4_crash_55 : decode cX4_crash 55 = .ok (.aload_n 0, 1) := by decide +kernel
theorem dX4_crash_56 : decode cX4_crash 56 = .ok (.getfield 22, 3) := by decide +kernel
theorem dX4_crash_59 : decode cX4_crash 59 = .ok (.iload_n 2, 1) := by decide +kernel
theorem dX4_crash_60 : decode cX4_crash 60 = .ok (.iconst 0, 1) := by decide +kernel
theorem dX4_crash_61 : decode cX4_crash 61 = .ok (.iastore, 1) := by decide +kernel
theorem dX4_crash_62 : decode cX4_crash 62 = .ok (.iinc 2 1, 3) := by decide +kernel
theorem dX4_crash_65 : decode cX4_crash 65 = .ok (.goto (-44), 3) := by decide +kernel
theorem dX4_crash_68 : decode cX4_crash 68 = .ok (.aload_n 0, 1) := by decide +kernel
theorem dX4_crash_69 : decode cX4_crash 69 = .ok (.iconst 0, 1) := by decide +kernel
theorem dX4_crash_70 : decode cX4_crash 70 = .ok (.putfield 82, 3) := by decide +kernel
theorem dX4_crash_73 : decode cX4_crash 73 = .ok (.aload_n 0, 1) := by decide +kernel
theorem dX4_crash_74 : decode cX4_crash 74 = .ok (.invokevirtual 135, 3) := by decide +kernel
theorem dX4_crash_77 : decode cX4_crash 77 = .ok (.aload_n 0, 1) := by decide +kernel
theorem dX4_crash_78 : decode cX4_crash 78 = .ok (.iconst 0, 1) := by decide +kernel
theorem dX4_crash_79 : decode cX4_crash 79 = .ok (.putfield 138, 3) := by decide +kernel
theorem dX4_crash_82 : decode cX4_crash 82 = .ok (.aload_n 0, 1) := by decide +kernel
theorem dX4_crash_83 : decode cX4_crash 83 = .ok (.getfield 113, 3) := by decide +kernel
theorem dX4_crash_86 : decode cX4_crash 86 = .ok (.istore_n 2, 1) := by decide +kernel
theorem dX4_crash_87 : decode cX4_crash 87 = .ok (.iconst 0, 1) := by decide +kernel
theorem dX4_crash_88 : decode cX4_crash 88 = .ok (.istore_n 3, 1) := by decide +kernel
theorem dX4_crash_89 : decode cX4_crash 89 = .ok (.iload_n 3, 1) := by decide +kernel
theorem dX4_crash_90 : decode cX4_crash 90 = .ok (.bipush 8, 2) := by decide +kernel
theorem dX4_crash_92 : decode cX4_crash 92 = .ok (.if_icmp .ge 20, 3) := by decide +kernel
theorem dX4_crash_95 : decode cX4_crash 95 = .ok (.aload_n 0, 1) := by decide +kernel
theorem dX4_crash_96 : decode cX4_crash 96 = .ok (.getfield 59, 3) := by decide +kernel
theorem dX4_crash_99 : decode cX4_crash 99 = .ok (.iload_n 3, 1) := by decide +kernel
theorem dX4_crash_100 : decode cX4_crash 100 = .ok (.aload_n 0, 1) := by decide +kernel
theorem dX4_crash_101 : decode cX4_crash 101 = .ok (.iload_n 3, 1) := by decide +kernel
theorem dX4_crash_102 : decode cX4_crash 102 = .ok (.invokevirtual 141, 3) := by decide +kernel
theorem dX4_crash_105 : decode cX4_crash 105 = .ok (.bastore, 1) := by decide +kernel
theorem dX4_crash_106 : decode cX4_crash 106 = .ok (.iinc 3 1, 3) := by decide +kernel
theorem dX4_crash_109 : decode cX4_crash 109 = .ok (.goto (-20), 3) := by decide +kernel
theorem dX4_crash_112 : decode cX4_crash 112 = .ok (.iload_n 2, 1) := by decide +kernel
theorem dX4_crash_113 : decode cX4_crash 113 = .ok (.istore_n 3, 1) := by decide +kernel
theorem dX4_crash_114 : decode cX4_crash 114 = .ok (.iload_n 3, 1) := by decide +kernel
theorem dX4_crash_115 : decode cX4_crash 115 = .ok (.ifCond .le 113, 3) := by decide +kernel
theorem dX4_crash_118 : decode cX4_crash 118 = .ok (.aload_n 0, 1) := by decide +kernel
theorem dX4_crash_119 : decode cX4_crash 119 = .ok (.getfield 35, 3) := by decide +kernel
theorem dX4_crash_122 : decode cX4_crash 122 = .ok (.iload_n 3, 1) := by decide +kernel
theorem dX4_crash_123 : decode cX4_crash 123 = .ok (.iaload, 1) := by decide +kernel
theorem dX4_crash_124 : decode cX4_crash 124 = .ok (.ifCond .ne 98, 3) := by decide +kernel
theorem dX4_crash_127 : decode cX4_crash 127 = .ok (.aload_n 0, 1) := by decide +kernel
theorem dX4_crash_128 : decode cX4_crash 128 = .ok (.getfield 56, 3) := by decide +kernel
theorem dX4_crash_131 : decode cX4_crash 131 = .ok (.iload_n 3, 1) := by decide +kernel
theorem dX4_crash_132 : decode cX4_crash 132 = .ok (.baload, 1) := by decide +kernel
theorem dX4_crash_133 : decode cX4_crash 133 = .ok (.ifCond .ne 89, 3) := by decide +kernel
theorem dX4_crash_136 : decode cX4_crash 136 = .ok (.aload_n 0, 1) := by decide +kernel
theorem dX4_crash_137 : decode cX4_crash 137 = .ok (.getfield 59, 3) := by decide +kernel
theorem dX4_crash_140 : decode cX4_crash 140 = .ok (.aload_n 0, 1) := by decide +kernel
theorem dX4_crash_141 : decode cX4_crash 141 = .ok (.getfield 38, 3) := by decide +kernel
theorem dX4_crash_144 : decode cX4_crash 144 = .ok (.iload_n 3, 1) := by decide +kernel
theorem dX4_crash_145 : decode cX4_crash 145 = .ok (.iaload, 1) := by decide +kernel
theorem dX4_crash_146 : decode cX4_crash 146 = .ok (.baload, 1) := by decide +kernel
theorem dX4_crash_147 : decode cX4_crash 147 = .ok (.ifCond .eq 75, 3) := by decide +kernel
theorem dX4_crash_150 : decode cX4_crash 150 = .ok (.aload_n 0, 1) := by decide +kernel
theorem dX4_crash_151 : decode cX4_crash 151 = .ok (.iload_n 3, 1) := by decide +kernel
theorem dX4_crash_152 : decode cX4_crash 152 = .ok (.invokevirtual 144, 3) := by decide +kernel
theorem dX4_crash_155 : decode cX4_crash 155 = .ok (.ifCond .eq 67, 3) := by decide +kernel
theorem dX4_crash_158 : decode cX4_crash 158 = .ok (.bipush 8, 2) := by decide +kernel
theorem dX4_crash_160 : decode cX4_crash 160 = .ok (.aload_n 0, 1) := by decide +kernel
theorem dX4_crash_161 : decode cX4_crash 161 = .ok (.getfield 41, 3) := by decide +kernel
theorem dX4_crash_164 : decode cX4_crash 164 = .ok (.iload_n 3, 1) := by decide +kernel
theorem dX4_crash_165 : decode cX4_crash 165 = .ok (.iaload, 1) := by decide +kernel
theorem dX4_crash_166 : decode cX4_crash 166 = .ok (.imul, 1) := by decide +kernel
theorem dX4_crash_167 : decode cX4_crash 167 = .ok (.aload_n 0, 1) := by decide +kernel
theorem dX4_crash_168 : decode cX4_crash 168 = .ok (.getfield 44, 3) := by decide +kernel
theorem dX4_crash_171 : decode cX4_crash 171 = .ok (.iload_n 3, 1) := by decide +kernel
theorem dX4_crash_172 : decode cX4_crash 172 = .ok (.iaload, 1) := by decide +kernel
theorem dX4_crash_173 : decode cX4_crash 173 = .ok (.iadd, 1) := by decide +kernel
theorem dX4_crash_174 : decode cX4_crash 174 = .ok (.istore 4, 2) := by decide +kernel
theorem dX4_crash_176 : decode cX4_crash 176 = .ok (.aload_n 0, 1) := by decide +kernel
theorem dX4_crash_177 : decode cX4_crash 177 = .ok (.getfield 13, 3) := by decide +kernel
theorem dX4_crash_180 : decode cX4_crash 180 = .ok (.aload_n 0, 1) := by decide +kernel
theorem dX4_crash_181 : decode cX4_crash 181 = .ok (.getfield 41, 3) := by decide +kernel
theorem dX4_crash_184 : decode cX4_crash 184 = .ok (.iload_n 3, 1) := by decide +kernel
theorem dX4_crash_185 : decode cX4_crash 185 = .ok (.iaload, 1) := by decide +kernel
theorem dX4_crash_186 : decode cX4_crash 186 = .ok (.aload_n 0, 1) := by decide +kernel
theorem dX4_crash_187 : decode cX4_crash 187 = .ok (.iload_n 3, 1) := by decide +kernel
theorem dX4_crash_188 : decode cX4_crash 188 = .ok (.aload_n 0, 1) := by decide +kernel
theorem dX4_crash_189 : decode cX4_crash 189 = .ok (.getfield 7, 3) := by decide +kernel
theorem dX4_crash_192 : decode cX4_crash 192 = .ok (.iload 4, 2) := by decide +kernel
theorem dX4_crash_194 : decode cX4_crash 194 = .ok (.iaload, 1) := by decide +kernel
theorem dX4_crash_195 : decode cX4_crash 195 = .ok (.invokevirtual 129, 3) := by decide +kernel
theorem dX4_crash_198 : decode cX4_crash 198 = .ok (.iastore, 1) := by decide +kernel
theorem dX4_crash_199 : decode cX4_crash 199 = .ok (.aload_n 0, 1) := by decide +kernel
theorem dX4_crash_200 : decode cX4_crash 200 = .ok (.getfield 7, 3) := by decide +kernel
theorem dX4_crash_203 : decode cX4_crash 203 = .ok (.iload 4, 2) := by decide +kernel
theorem dX4_crash_205 : decode cX4_crash 205 = .ok (.aload_n 0, 1) := by decide +kernel
theorem dX4_crash_206 : decode cX4_crash 206 = .ok (.getfield 47, 3) := by decide +kernel
theorem dX4_crash_209 : decode cX4_crash 209 = .ok (.iload_n 3, 1) := by decide +kernel
theorem dX4_crash_210 : decode cX4_crash 210 = .ok (.iaload, 1) := by decide +kernel
theorem dX4_crash_211 : decode cX4_crash 211 = .ok (.iastore, 1) := by decide +kernel
theorem dX4_crash_212 : decode cX4_crash 212 = .ok (.aload_n 0, 1) := by decide +kernel
theorem dX4_crash_213 : decode cX4_crash 213 = .ok (.dup, 1) := by decide +kernel
theorem dX4_crash_214 : decode cX4_crash 214 = .ok (.getfield 138, 3) := by decide +kernel
theorem dX4_crash_217 : decode cX4_crash 217 = .ok (.iconst 1, 1) := by decide +kernel
theorem dX4_crash_218 : decode cX4_crash 218 = .ok (.iadd, 1) := by decide +kernel
theorem dX4_crash_219 : decode cX4_crash 219 = .ok (.putfield 138, 3) := by decide +kernel
theorem dX4_crash_222 : decode cX4_crash 222 = .ok (.iinc 3 (-1), 3) := by decide +kernel
theorem dX4_crash_225 : decode cX4_crash 225 = .ok (.goto (-111), 3) := by decide +kernel
theorem dX4_crash_228 : decode cX4_crash 228 = .ok (.iconst 0, 1) := by decide +kernel
theorem dX4_crash_229 : decode cX4_crash 229 = .ok (.istore_n 3, 1) := by decide +kernel
theorem dX4_crash_230 : decode cX4_crash 230 = .ok (.iload_n 3, 1) := by decide +kernel
theorem dX4_crash_231 : decode cX4_crash 231 = .ok (.bipush 8, 2) := by decide +kernel
theorem dX4_crash_233 : decode cX4_crash 233 = .ok (.if_icmp .ge 40, 3) := by decide +kernel
theorem dX4_crash_236 : decode cX4_crash 236 = .ok (.aload_n 0, 1) := by decide +kernel
theorem dX4_crash_237 : decode cX4_crash 237 = .ok (.getfield 59, 3) := by decide +kernel
theorem dX4_crash_240 : decode cX4_crash 240 = .ok (.iload_n 3, 1) := by decide +kernel
theorem dX4_crash_241 : decode cX4_crash 241 = .ok (.baload, 1) := by decide +kernel
theorem dX4_crash_242 : decode cX4_crash 242 = .ok (.ifCond .eq 11, 3) := by decide +kernel
theorem dX4_crash_245 : decode cX4_crash 245 = .ok (.aload_n 0, 1) := by decide +kernel
theorem dX4_crash_246 : decode cX4_crash 246 = .ok (.iconst 3, 1) := by decide +kernel
theorem dX4_crash_247 : decode cX4_crash 247 = .ok (.iload_n 3, 1) := by decide +kernel
theorem dX4_crash_248 : decode cX4_crash 248 = .ok (.invokevirtual 122, 3) := by decide +kernel
theorem dX4_crash_251 : decode cX4_crash 251 = .ok (.istore 4, 2) := by decide +kernel
theorem dX4_crash_253 : decode cX4_crash 253 = .ok (.aload_n 0, 1) := by decide +kernel
theorem dX4_crash_254 : decode cX4_crash 254 = .ok (.getfield 59, 3) := by decide +kernel
theorem dX4_crash_257 : decode cX4_crash 257 = .ok (.iload_n 3, 1) := by decide +kernel
theorem dX4_crash_258 : decode cX4_crash 258 = .ok (.iconst 0, 1) := by decide +kernel
theorem dX4_crash_259 : decode cX4_crash 259 = .ok (.bastore, 1) := by decide +kernel
theorem dX4_crash_260 : decode cX4_crash 260 = .ok (.aload_n 0, 1) := by decide +kernel
theorem dX4_crash_261 : decode cX4_crash 261 = .ok (.getfield 62, 3) := by decide +kernel
theorem dX4_crash_264 : decode cX4_crash 264 = .ok (.iload_n 3, 1) := by decide +kernel
theorem dX4_crash_265 : decode cX4_crash 265 = .ok (.iconst 0, 1) := by decide +kernel
theorem dX4_crash_266 : decode cX4_crash 266 = .ok (.bastore, 1) := by decide +kernel
theorem dX4_crash_267 : decode cX4_crash 267 = .ok (.iinc 3 1, 3) := by decide +kernel
theorem dX4_crash_270 : decode cX4_crash 270 = .ok (.goto (-40), 3) := by decide +kernel
theorem dX4_crash_273 : decode cX4_crash 273 = .ok (.aload_n 0, 1) := by decide +kernel
theorem dX4_crash_274 : decode cX4_crash 274 = .ok (.aload_n 0, 1) := by decide +kernel
theorem dX4_crash_275 : decode cX4_crash 275 = .ok (.getfield 113, 3) := by decide +kernel
theorem dX4_crash_278 : decode cX4_crash 278 = .ok (.putfield 72, 3) := by decide +kernel
theorem dX4_crash_281 : decode cX4_crash 281 = .ok (.aload_n 0, 1) := by decide +kernel
theorem dX4_crash_282 : decode cX4_crash 282 = .ok (.dup, 1) := by decide +kernel
theorem dX4_crash_283 : decode cX4_crash 283 = .ok (.getfield 147, 3) := by decide +kernel
theorem dX4_crash_286 : decode cX4_crash 286 = .ok (.iconst 1, 1) := by decide +kernel
theorem dX4_crash_287 : decode cX4_crash 287 = .ok (.iadd, 1) := by decide +kernel
theorem dX4_crash_288 : decode cX4_crash 288 = .ok (.putfield 147, 3) := by decide +kernel
theorem dX4_crash_291 : decode cX4_crash 291 = .ok (.iload_n 1, 1) := by decide +kernel
theorem dX4_crash_292 : decode cX4_crash 292 = .ok (.ireturn, 1) := by decide +kernel
theorem dX4_isLatest_0 : decode cX4_isLatest 0 = .ok (.iconst 1, 1) := by decide +kernel
theorem dX4_isLatest_1 : decode cX4_isLatest 1 = .ok (.istore_n 2, 1) := by decide +kernel
theorem dX4_isLatest_2 : decode cX4_isLatest 2 = .ok (.iload_n 1, 1) := by decide +kernel
theorem dX4_isLatest_3 : decode cX4_isLatest 3 = .ok (.iconst 1, 1) := by decide +kernel
theorem dX4_isLatest_4 : decode cX4_isLatest 4 = .ok (.iadd, 1) := by decide +kernel
theorem dX4_isLatest_5 : decode cX4_isLatest 5 = .ok (.istore_n 3, 1) := by decide +kernel
theorem dX4_isLatest_6 : decode cX4_isLatest 6 = .ok (.iload_n 3, 1) := by decide +kernel
theorem dX4_isLatest_7 : decode cX4_isLatest 7 = .ok (.aload_n 0, 1) := by decide +kernel
theorem dX4_isLatest_8 : decode cX4_isLatest 8 = .ok (.getfield 113, 3) := by decide +kernel
theorem dX4_isLatest_11 : decode cX4_isLatest 11 = .ok (.if_icmp .gt 44, 3) := by decide +kernel
theorem dX4_isLatest_14 : decode cX4_isLatest 14 = .ok (.iload_n 2, 1) := by decide +kernel
theorem dX4_isLatest_15 : decode cX4_isLatest 15 = .ok (.ifCond .eq 32, 3) := by decide +kernel
theorem dX4_isLatest_18 : decode cX4_isLatest 18 = .ok (.aload_n 0, 1) := by decide +kernel
theorem dX4_isLatest_19 : decode cX4_isLatest 19 = .ok (.getfield 38, 3) := by decide +kernel
theorem dX4_isLatest_22 : decode cX4_isLatest 22 = .ok (.iload_n 3, 1) := by decide +kernel
theorem dX4_isLatest_23 : decode cX4_isLatest 23 = .ok (.iaload, 1) := by decide +kernel
theorem dX4_isLatest_24 : decode cX4_isLatest 24 = .ok (.aload_n 0, 1) := by decide +kernel
theorem dX4_isLatest_25 : decode cX4_isLatest 25 = .ok (.getfield 38, 3) := by decide +kernel
theorem dX4_isLatest_28 : decode cX4_isLatest 28 = .ok (.iload_n 1, 1) := by decide +kernel
theorem dX4_isLatest_29 : decode cX4_isLatest 29 = .ok (.iaload, 1) := by decide +kernel
theorem dX4_isLatest_30 : decode cX4_isLatest 30 = .ok (.if_icmp .ne 13, 3) := by decide +kernel
theorem dX4_isLatest_33 : decode cX4_isLatest 33 = .ok (.aload_n 0, 1) := by decide +kernel
theorem dX4_isLatest_34 : decode cX4_isLatest 34 = .ok (.getfield 35, 3) := by decide +kernel
theorem dX4_isLatest_37 : decode cX4_isLatest 37 = .ok (.iload_n 3, 1) := by decide +kernel
theorem dX4_isLatest_38 : decode cX4_isLatest 38 = .ok (.iaload, 1) := by decide +kernel
theorem dX4_isLatest_39 : decode cX4_isLatest 39 = .ok (.iconst 2, 1) := by decide +kernel
theorem dX4_isLatest_40 : decode cX4_isLatest 40 = .ok (.if_icmp .ge 7, 3) := by decide +kernel
theorem dX4_isLatest_43 : decode cX4_isLatest 43 = .ok (.iconst 1, 1) := by decide +kernel
theorem dX4_isLatest_44 : decode cX4_isLatest 44 = .ok (.goto 4, 3) := by decide +kernel
theorem dX4_isLatest_47 : decode cX4_isLatest 47 = .ok (.iconst 0, 1) := by decide +kernel
theorem dX4_isLatest_48 : decode cX4_isLatest 48 = .ok (.istore_n 2, 1) := by decide +kernel
theorem dX4_isLatest_49 : decode cX4_isLatest 49 = .ok (.iinc 3 1, 3) := by decide +kernel
theorem dX4_isLatest_52 : decode cX4_isLatest 52 = .ok (.goto (-46), 3) := by decide +kernel
theorem dX4_isLatest_55 : decode cX4_isLatest 55 = .ok (.iload_n 2, 1) := by decide +kernel
theorem dX4_isLatest_56 : decode cX4_isLatest 56 = .ok (.ireturn, 1) := by decide +kernel
theorem dX4_disk_0 : decode cX4_disk 0 = .ok (.aload_n 0, 1) := by decide +kernel
theorem dX4_disk_1 : decode cX4_disk 1 = .ok (.iload_n 1, 1) := by decide +kernel
theorem dX4_disk_2 : decode cX4_disk 2 = .ok (.iconst 0, 1) := by decide +kernel
theorem dX4_disk_3 : decode cX4_disk 3 = .ok (.bipush 31, 2) := by decide +kernel
theorem dX4_disk_5 : decode cX4_disk 5 = .ok (.invokestatic 100, 3) := by decide +kernel
theorem dX4_disk_8 : decode cX4_disk 8 = .ok (.ifCond .eq 17, 3) := by decide +kernel
theorem dX4_disk_11 : decode cX4_disk 11 = .ok (.iload_n 2, 1) := by decide +kernel
theorem dX4_disk_12 : decode cX4_disk 12 = .ok (.iconst 0, 1) := by decide +kernel
theorem dX4_disk_13 : decode cX4_disk 13 = .ok (.bipush 8, 2) := by decide +kernel
theorem dX4_disk_15 : decode cX4_disk 15 = .ok (.invokestatic 100, 3) := by decide +kernel
theorem dX4_disk_18 : decode cX4_disk 18 = .ok (.ifCond .eq 7, 3) := by decide +kernel
theorem dX4_disk_21 : decode cX4_disk 21 = .ok (.iconst 0, 1) := by decide +kernel
theorem dX4_disk_22 : decode cX4_disk 22 = .ok (.goto 4, 3) := by decide +kernel
theorem dX4_disk_25 : decode cX4_disk 25 = .ok (.iconst 1, 1) := by decide +kernel
theorem dX4_disk_26 : decode cX4_disk 26 = .ok (.invokevirtual 104, 3) := by decide +kernel
theorem dX4_disk_29 : decode cX4_disk 29 = .ok (.ifCond .eq 5, 3) := by decide +kernel
theorem dX4_disk_32 : decode cX4_disk 32 = .ok (.iconst 0, 1) := by decide +kernel
theorem dX4_disk_33 : decode cX4_disk 33 = .ok (.ireturn, 1) := by decide +kernel
theorem dX4_disk_34 : decode cX4_disk 34 = .ok (.iload_n 2, 1) := by decide +kernel
theorem dX4_disk_35 : decode cX4_disk 35 = .ok (.bipush 8, 2) := by decide +kernel
theorem dX4_disk_37 : decode cX4_disk 37 = .ok (.if_icmp .ne 12, 3) := by decide +kernel
theorem dX4_disk_40 : decode cX4_disk 40 = .ok (.aload_n 0, 1) := by decide +kernel
theorem dX4_disk_41 : decode cX4_disk 41 = .ok (.getfield 13, 3) := by decide +kernel
theorem dX4_disk_44 : decode cX4_disk 44 = .ok (.iload_n 1, 1) := by decide +kernel
theorem dX4_disk_45 : decode cX4_disk 45 = .ok (.iaload, 1) := by decide +kernel
theorem dX4_disk_46 : decode cX4_disk 46 = .ok (.goto 14, 3) := by decide +kernel
theorem dX4_disk_49 : decode cX4_disk 49 = .ok (.aload_n 0, 1) := by decide +kernel
theorem dX4_disk_50 : decode cX4_disk 50 = .ok (.getfield 7, 3) := by decide +kernel
theorem dX4_disk_53 : decode cX4_disk 53 = .ok (.bipush 8, 2) := by decide +kernel
theorem dX4_disk_55 : decode cX4_disk 55 = .ok (.iload_n 1, 1) := by decide +kernel
theorem dX4_disk_56 : decode cX4_disk 56 = .ok (.imul, 1) := by decide +kernel
theorem dX4_disk_57 : decode cX4_disk 57 = .ok (.iload_n 2, 1) := by decide +kernel
theorem dX4_disk_58 : decode cX4_disk 58 = .ok (.iadd, 1) := by decide +kernel
theorem dX4_disk_59 : decode cX4_disk 59 = .ok (.iaload, 1) := by decide +kernel
theorem dX4_disk_60 : decode cX4_disk 60 = .ok (.ireturn, 1) := by decide +kernel
theorem dX4_frame_0 : decode cX4_frame 0 = .ok (.aload_n 0, 1) := by decide +kernel
theorem dX4_frame_1 : decode cX4_frame 1 = .ok (.iload_n 1, 1) := by decide +kernel
theorem dX4_frame_2 : decode cX4_frame 2 = .ok (.iconst 0, 1) := by decide +kernel
theorem dX4_frame_3 : decode cX4_frame 3 = .ok (.aload_n 0, 1) := by decide +kernel
theorem dX4_frame_4 : decode cX4_frame 4 = .ok (.getfield 65, 3) := by decide +kernel
theorem dX4_frame_7 : decode cX4_frame 7 = .ok (.iconst 1, 1) := by decide +kernel
theorem dX4_frame_8 : decode cX4_frame 8 = .ok (.isub, 1) := by decide +kernel
theorem dX4_frame_9 : decode cX4_frame 9 = .ok (.invokestatic 100, 3) := by decide +kernel
theorem dX4_frame_12 : decode cX4_frame 12 = .ok (.ifCond .eq 16, 3) := by decide +kernel
theorem dX4_frame_15 : decode cX4_frame 15 = .ok (.iload_n 2, 1) := by decide +kernel
theorem dX4_frame_16 : decode cX4_frame 16 = .ok (.iconst 0, 1) := by decide +kernel
theorem dX4_frame_17 : decode cX4_frame 17 = .ok (.iconst 4, 1) := by decide +kernel
theorem dX4_frame_18 : decode cX4_frame 18 = .ok (.invokestatic 100, 3) := by decide +kernel
theorem dX4_frame_21 : decode cX4_frame 21 = .ok (.ifCond .eq 7, 3) := by decide +kernel
theorem dX4_frame_24 : decode cX4_frame 24 = .ok (.iconst 0, 1) := by decide +kernel
theorem dX4_frame_25 : decode cX4_frame 25 = .ok (.goto 4, 3) := by decide +kernel
theorem dX4_frame_28 : decode cX4_frame 28 = .ok (.iconst 1, 1) := by decide +kernel
theorem dX4_frame_29 : decode cX4_frame 29 = .ok (.invokevirtual 104, 3) := by decide +kernel
theorem dX4_frame_32 : decode cX4_frame 32 = .ok (.ifCond .eq 5, 3) := by decide +kernel
theorem dX4_frame_35 : decode cX4_frame 35 = .ok (.iconst 0, 1) := by decide +kernel
theorem dX4_frame_36 : decode cX4_frame 36 = .ok (.ireturn, 1) := by decide +kernel
theorem dX4_frame_37 : decode cX4_frame 37 = .ok (.aload_n 0, 1) := by decide +kernel
theorem dX4_frame_38 : decode cX4_frame 38 = .ok (.getfield 16, 3) := by decide +kernel
theorem dX4_frame_41 : decode cX4_frame 41 = .ok (.iload_n 1, 1) := by decide +kernel
theorem dX4_frame_42 : decode cX4_frame 42 = .ok (.iaload, 1) := by decide +kernel
theorem dX4_frame_43 : decode cX4_frame 43 = .ok (.ifCond .ge 7, 3) := by decide +kernel
theorem dX4_frame_46 : decode cX4_frame 46 = .ok (.iconst 1, 1) := by decide +kernel
theorem dX4_frame_47 : decode cX4_frame 47 = .ok (.goto 4, 3) := by decide +kernel
theorem dX4_frame_50 : decode cX4_frame 50 = .ok (.iconst 0, 1) := by decide +kernel
theorem dX4_frame_51 : decode cX4_frame 51 = .ok (.istore_n 3, 1) := by decide +kernel
theorem dX4_frame_52 : decode cX4_frame 52 = .ok (.iload_n 2, 1) := by decide +kernel
theorem dX4_frame_53 : decode cX4_frame 53 = .ok (.tableswitch 91 0 3 #[31, 38, 53, 72], 31) := by decide +kernel
theorem dX4_frame_84 : decode cX4_frame 84 = .ok (.aload_n 0, 1) := by decide +kernel
theorem dX4_frame_85 : decode cX4_frame 85 = .ok (.getfield 16, 3) := by decide +kernel
theorem dX4_frame_88 : decode cX4_frame 88 = .ok (.iload_n 1, 1) := by decide +kernel
theorem dX4_frame_89 : decode cX4_frame 89 = .ok (.iaload, 1) := by decide +kernel
theorem dX4_frame_90 : decode cX4_frame 90 = .ok (.ireturn, 1) := by decide +kernel
theorem dX4_frame_91 : decode cX4_frame 91 = .ok (.iload_n 3, 1) := by decide +kernel
theorem dX4_frame_92 : decode cX4_frame 92 = .ok (.ifCond .eq 7, 3) := by decide +kernel
theorem dX4_frame_95 : decode cX4_frame 95 = .ok (.iconst 0, 1) := by decide +kernel
theorem dX4_frame_96 : decode cX4_frame 96 = .ok (.goto 9, 3) := by decide +kernel
theorem dX4_frame_99 : decode cX4_frame 99 = .ok (.aload_n 0, 1) := by decide +kernel
theorem dX4_frame_100 : decode cX4_frame 100 = .ok (.getfield 25, 3) := by decide +kernel
theorem dX4_frame_103 : decode cX4_frame 103 = .ok (.iload_n 1, 1) := by decide +kernel
theorem dX4_frame_104 : decode cX4_frame 104 = .ok (.iaload, 1) := by decide +kernel
theorem dX4_frame_105 : decode cX4_frame 105 = .ok (.ireturn, 1) := by decide +kernel
theorem dX4_frame_106 : decode cX4_frame 106 = .ok (.iload_n 3, 1) := by decide +kernel
theorem dX4_frame_107 : decode cX4_frame 107 = .ok (.ifCond .ne 16, 3) := by decide +kernel
theorem dX4_frame_110 : decode cX4_frame 110 = .ok (.aload_n 0, 1) := by decide +kernel
theorem dX4_frame_111 : decode cX4_frame 111 = .ok (.getfield 28, 3) := by decide +kernel
theorem dX4_frame_114 : decode cX4_frame 114 = .ok (.iload_n 1, 1) := by decide +kernel
theorem dX4_frame_115 : decode cX4_frame 115 = .ok (.baload, 1) := by decide +kernel
theorem dX4_frame_116 : decode cX4_frame 116 = .ok (.ifCond .eq 7, 3) := by decide +kernel
theorem dX4_frame_119 : decode cX4_frame 119 = .ok (.iconst 1, 1) := by decide +kernel
theorem dX4_frame_120 : decode cX4_frame 120 = .ok (.goto 4, 3) := by decide +kernel
theorem dX4_frame_123 : decode cX4_frame 123 = .ok (.iconst 0, 1) := by decide +kernel
theorem dX4_frame_124 : decode cX4_frame 124 = .ok (.ireturn, 1) := by decide +kernel
theorem dX4_frame_125 : decode cX4_frame 125 = .ok (.iload_n 3, 1) := by decide +kernel
theorem dX4_frame_126 : decode cX4_frame 126 = .ok (.ifCond .ne 16, 3) := by decide +kernel
theorem dX4_frame_129 : decode cX4_frame 129 = .ok (.aload_n 0, 1) := by decide +kernel
theorem dX4_frame_130 : decode cX4_frame 130 = .ok (.getfield 32, 3) := by decide +kernel
theorem dX4_frame_133 : decode cX4_frame 133 = .ok (.iload_n 1, 1) := by decide +kernel
theorem dX4_frame_134 : decode cX4_frame 134 = .ok (.baload, 1) := by decide +kernel
theorem dX4_frame_135 : decode cX4_frame 135 = .ok (.ifCond .eq 7, 3) := by decide +kernel
theorem dX4_frame_138 : decode cX4_frame 138 = .ok (.iconst 1, 1) := by decide +kernel
theorem dX4_frame_139 : decode cX4_frame 139 = .ok (.goto 4, 3) := by decide +kernel
theorem dX4_frame_142 : decode cX4_frame 142 = .ok (.iconst 0, 1) := by decide +kernel
theorem dX4_frame_143 : decode cX4_frame 143 = .ok (.ireturn, 1) := by decide +kernel
theorem dX4_frame_144 : decode cX4_frame 144 = .ok (.iload_n 3, 1) := by decide +kernel
theorem dX4_frame_145 : decode cX4_frame 145 = .ok (.ifCond .eq 7, 3) := by decide +kernel
theorem dX4_frame_148 : decode cX4_frame 148 = .ok (.iconst 0, 1) := by decide +kernel
theorem dX4_frame_149 : decode cX4_frame 149 = .ok (.goto 9, 3) := by decide +kernel
theorem dX4_frame_152 : decode cX4_frame 152 = .ok (.aload_n 0, 1) := by decide +kernel
theorem dX4_frame_153 : decode cX4_frame 153 = .ok (.getfield 22, 3) := by decide +kernel
theorem dX4_frame_156 : decode cX4_frame 156 = .ok (.iload_n 1, 1) := by decide +kernel
theorem dX4_frame_157 : decode cX4_frame 157 = .ok (.iaload, 1) := by decide +kernel
theorem dX4_frame_158 : decode cX4_frame 158 = .ok (.ireturn, 1) := by decide +kernel
theorem dX4_log_0 : decode cX4_log 0 = .ok (.aload_n 0, 1) := by decide +kernel
theorem dX4_log_1 : decode cX4_log 1 = .ok (.iload_n 1, 1) := by decide +kernel
theorem dX4_log_2 : decode cX4_log 2 = .ok (.iconst 1, 1) := by decide +kernel
theorem dX4_log_3 : decode cX4_log 3 = .ok (.aload_n 0, 1) := by decide +kernel
theorem dX4_log_4 : decode cX4_log 4 = .ok (.getfield 113, 3) := by decide +kernel
theorem dX4_log_7 : decode cX4_log 7 = .ok (.invokestatic 100, 3) := by decide +kernel
theorem dX4_log_10 : decode cX4_log 10 = .ok (.ifCond .eq 17, 3) := by decide +kernel
theorem dX4_log_13 : decode cX4_log 13 = .ok (.iload_n 2, 1) := by decide +kernel
theorem dX4_log_14 : decode cX4_log 14 = .ok (.iconst 0, 1) := by decide +kernel
theorem dX4_log_15 : decode cX4_log 15 = .ok (.bipush 6, 2) := by decide +kernel
theorem dX4_log_17 : decode cX4_log 17 = .ok (.invokestatic 100, 3) := by decide +kernel
theorem dX4_log_20 : decode cX4_log 20 = .ok (.ifCond .eq 7, 3) := by decide +kernel
theorem dX4_log_23 : decode cX4_log 23 = .ok (.iconst 0, 1) := by decide +kernel
theorem dX4_log_24 : decode cX4_log 24 = .ok (.goto 4, 3) := by decide +kernel
theorem dX4_log_27 : decode cX4_log 27 = .ok (.iconst 1, 1) := by decide +kernel
theorem dX4_log_28 : decode cX4_log 28 = .ok (.invokevirtual 104, 3) := by decide +kernel
theorem dX4_log_31 : decode cX4_log 31 = .ok (.ifCond .eq 5, 3) := by decide +kernel
theorem dX4_log_34 : decode cX4_log 34 = .ok (.iconst 0, 1) := by decide +kernel
theorem dX4_log_35 : decode cX4_log 35 = .ok (.ireturn, 1) := by decide +kernel
theorem dX4_log_36 : decode cX4_log 36 = .ok (.iload_n 2, 1) := by decide +kernel
theorem dX4_log_37 : decode cX4_log 37 = .ok (.tableswitch 81 0 5 #[39, 46, 53, 60, 67, 74], 39) := by decide +kernel
theorem dX4_log_76 : decode cX4_log 76 = .ok (.aload_n 0, 1) := by decide +kernel
theorem dX4_log_77 : decode cX4_log 77 = .ok (.getfield 35, 3) := by decide +kernel
theorem dX4_log_80 : decode cX4_log 80 = .ok (.iload_n 1, 1) := by decide +kernel
theorem dX4_log_81 : decode cX4_log 81 = .ok (.iaload, 1) := by decide +kernel
theorem dX4_log_82 : decode cX4_log 82 = .ok (.ireturn, 1) := by decide +kernel
theorem dX4_log_83 : decode cX4_log 83 = .ok (.aload_n 0, 1) := by decide +kernel
theorem dX4_log_84 : decode cX4_log 84 = .ok (.getfield 38, 3) := by decide +kernel
theorem dX4_log_87 : decode cX4_log 87 = .ok (.iload_n 1, 1) := by decide +kernel
theorem dX4_log_88 : decode cX4_log 88 = .ok (.iaload, 1) := by decide +kernel
theorem dX4_log_89 : decode cX4_log 89 = .ok (.ireturn, 1) := by decide +kernel
theorem dX4_log_90 : decode cX4_log 90 = .ok (.aload_n 0, 1) := by decide +kernel
theorem dX4_log_91 : decode cX4_log 91 = .ok (.getfield 41, 3) := by decide +kernel
theorem dX4_log_94 : decode cX4_log 94 = .ok (.iload_n 1, 1) := by decide +kernel
theorem dX4_log_95 : decode cX4_log 95 = .ok (.iaload, 1) := by decide +kernel
theorem dX4_log_96 : decode cX4_log 96 = .ok (.ireturn, 1) := by decide +kernel
theorem dX4_log_97 : decode cX4_log 97 = .ok (.aload_n 0, 1) := by decide +kernel
theorem dX4_log_98 : decode cX4_log 98 = .ok (.getfield 44, 3) := by decide +kernel
theorem dX4_log_101 : decode cX4_log 101 = .ok (.iload_n 1, 1) := by decide +kernel
theorem dX4_log_102 : decode cX4_log 102 = .ok (.iaload, 1) := by decide +kernel
theorem dX4_log_103 : decode cX4_log 103 = .ok (.ireturn, 1) := by decide +kernel
theorem dX4_log_104 : decode cX4_log 104 = .ok (.aload_n 0, 1) := by decide +kernel
theorem dX4_log_105 : decode cX4_log 105 = .ok (.getfield 47, 3) := by decide +kernel
theorem dX4_log_108 : decode cX4_log 108 = .ok (.iload_n 1, 1) := by decide +kernel
theorem dX4_log_109 : decode cX4_log 109 = .ok (.iaload, 1) := by decide +kernel
theorem dX4_log_110 : decode cX4_log 110 = .ok (.ireturn, 1) := by decide +kernel
theorem dX4_log_111 : decode cX4_log 111 = .ok (.aload_n 0, 1) := by decide +kernel
theorem dX4_log_112 : decode cX4_log 112 = .ok (.getfield 50, 3) := by decide +kernel
theorem dX4_log_115 : decode cX4_log 115 = .ok (.iload_n 1, 1) := by decide +kernel
theorem dX4_log_116 : decode cX4_log 116 = .ok (.iaload, 1) := by decide +kernel
theorem dX4_log_117 : decode cX4_log 117 = .ok (.ireturn, 1) := by decide +kernel
theorem dX4_log_118 : decode cX4_log 118 = .ok (.aload_n 0, 1) := by decide +kernel
theorem dX4_log_119 : decode cX4_log 119 = .ok (.getfield 53, 3) := by decide +kernel
theorem dX4_log_122 : decode cX4_log 122 = .ok (.iload_n 1, 1) := by decide +kernel
theorem dX4_log_123 : decode cX4_log 123 = .ok (.iaload, 1) := by decide +kernel
theorem dX4_log_124 : decode cX4_log 124 = .ok (.ireturn, 1) := by decide +kernel
theorem dX4_count_0 : decode cX4_count 0 = .ok (.aload_n 0, 1) := by decide +kernel
theorem dX4_count_1 : decode cX4_count 1 = .ok (.iload_n 1, 1) := by decide +kernel
theorem dX4_count_2 : decode cX4_count 2 = .ok (.iconst 0, 1) := by decide +kernel
theorem dX4_count_3 : decode cX4_count 3 = .ok (.bipush 7, 2) := by decide +kernel
theorem dX4_count_5 : decode cX4_count 5 = .ok (.invokestatic 100, 3) := by decide +kernel
theorem dX4_count_8 : decode cX4_count 8 = .ok (.ifCond .eq 7, 3) := by decide +kernel
theorem dX4_count_11 : decode cX4_count 11 = .ok (.iconst 0, 1) := by decide +kernel
theorem dX4_count_12 : decode cX4_count 12 = .ok (.goto 4, 3) := by decide +kernel
theorem dX4_count_15 : decode cX4_count 15 = .ok (.iconst 1, 1) := by decide +kernel
theorem dX4_count_16 : decode cX4_count 16 = .ok (.invokevirtual 104, 3) := by decide +kernel
theorem dX4_count_19 : decode cX4_count 19 = .ok (.ifCond .eq 5, 3) := by decide +kernel
theorem dX4_count_22 : decode cX4_count 22 = .ok (.iconst 0, 1) := by decide +kernel
theorem dX4_count_23 : decode cX4_count 23 = .ok (.ireturn, 1) := by decide +kernel
theorem dX4_count_24 : decode cX4_count 24 = .ok (.iconst 0, 1) := by decide +kernel
theorem dX4_count_25 : decode cX4_count 25 = .ok (.istore_n 2, 1) := by decide +kernel
theorem dX4_count_26 : decode cX4_count 26 = .ok (.iload_n 1, 1) := by decide +kernel
theorem dX4_count_27 : decode cX4_count 27 = .ok (.tableswitch 104 0 6 #[41, 46, 51, 84, 89, 94, 99], 41) := by decide +kernel
theorem dX4_count_68 : decode cX4_count 68 = .ok (.aload_n 0, 1) := by decide +kernel
theorem dX4_count_69 : decode cX4_count 69 = .ok (.getfield 113, 3) := by decide +kernel
theorem dX4_count_72 : decode cX4_count 72 = .ok (.ireturn, 1) := by decide +kernel
theorem dX4_count_73 : decode cX4_count 73 = .ok (.aload_n 0, 1) := by decide +kernel
theorem dX4_count_74 : decode cX4_count 74 = .ok (.getfield 72, 3) := by decide +kernel
theorem dX4_count_77 : decode cX4_count 77 = .ok (.ireturn, 1) := by decide +kernel
theorem dX4_count_78 : decode cX4_count 78 = .ok (.iconst 0, 1) := by decide +kernel
theorem dX4_count_79 : decode cX4_count 79 = .ok (.istore_n 3, 1) := by decide +kernel
theorem dX4_count_80 : decode cX4_count 80 = .ok (.iload_n 3, 1) := by decide +kernel
theorem dX4_count_81 : decode cX4_count 81 = .ok (.bipush 8, 2) := by decide +kernel
theorem dX4_count_83 : decode cX4_count 83 = .ok (.if_icmp .ge 26, 3) := by decide +kernel
theorem dX4_count_86 : decode cX4_count 86 = .ok (.aload_n 0, 1) := by decide +kernel
theorem dX4_count_87 : decode cX4_count 87 = .ok (.getfield 59, 3) := by decide +kernel
theorem dX4_count_90 : decode cX4_count 90 = .ok (.iload_n 3, 1) := by decide +kernel
theorem dX4_count_91 : decode cX4_count 91 = .ok (.baload, 1) := by decide +kernel
theorem dX4_count_92 : decode cX4_count 92 = .ok (.ifCond .eq 9, 3) := by decide +kernel
theorem dX4_count_95 : decode cX4_count 95 = .ok (.iload_n 2, 1) := by decide +kernel
theorem dX4_count_96 : decode cX4_count 96 = .ok (.iconst 1, 1) := by decide +kernel
theorem dX4_count_97 : decode cX4_count 97 = .ok (.iadd, 1) := by decide +kernel
theorem dX4_count_98 : decode cX4_count 98 = .ok (.goto 4, 3) := by decide +kernel
theorem dX4_count_101 : decode cX4_count 101 = .ok (.iload_n 2, 1) := by decide +kernel
theorem dX4_count_102 : decode cX4_count 102 = .ok (.istore_n 2, 1) := by decide +kernel
theorem dX4_count_103 : decode cX4_count 103 = .ok (.iinc 3 1, 3) := by decide +kernel
theorem dX4_count_106 : decode cX4_count 106 = .ok (.goto (-26), 3) := by decide +kernel
theorem dX4_count_109 : decode cX4_count 109 = .ok (.iload_n 2, 1) := by decide +kernel
theorem dX4_count_110 : decode cX4_count 110 = .ok (.ireturn, 1) := by decide +kernel
theorem dX4_count_111 : decode cX4_count 111 = .ok (.aload_n 0, 1) := by decide +kernel
theorem dX4_count_112 : decode cX4_count 112 = .ok (.getfield 82, 3) := by decide +kernel
theorem dX4_count_115 : decode cX4_count 115 = .ok (.ireturn, 1) := by decide +kernel
theorem dX4_count_116 : decode cX4_count 116 = .ok (.aload_n 0, 1) := by decide +kernel
theorem dX4_count_117 : decode cX4_count 117 = .ok (.getfield 75, 3) := by decide +kernel
theorem dX4_count_120 : decode cX4_count 120 = .ok (.ireturn, 1) := by decide +kernel
theorem dX4_count_121 : decode cX4_count 121 = .ok (.aload_n 0, 1) := by decide +kernel
theorem dX4_count_122 : decode cX4_count 122 = .ok (.getfield 97, 3) := by decide +kernel
theorem dX4_count_125 : decode cX4_count 125 = .ok (.ireturn, 1) := by decide +kernel
theorem dX4_count_126 : decode cX4_count 126 = .ok (.aload_n 0, 1) := by decide +kernel
theorem dX4_count_127 : decode cX4_count 127 = .ok (.getfield 147, 3) := by decide +kernel
theorem dX4_count_130 : decode cX4_count 130 = .ok (.ireturn, 1) := by decide +kernel
theorem dX4_count_131 : decode cX4_count 131 = .ok (.aload_n 0, 1) := by decide +kernel
theorem dX4_count_132 : decode cX4_count 132 = .ok (.getfield 138, 3) := by decide +kernel
theorem dX4_count_135 : decode cX4_count 135 = .ok (.ireturn, 1) := by decide +kernel
