theorem kM_commit_0 : decode mM_commit.2.1 0 = .ok (.aload_n 0, 1) := by decide +kernel
theorem kM_commit_1 : decode mM_commit.2.1 1 = .ok (.iload_n 1, 1) := by decide +kernel
theorem kM_commit_2 : decode mM_commit.2.1 2 = .ok (.invokevirtual 49, 3) := by decide +kernel
theorem kM_commit_5 : decode mM_commit.2.1 5 = .ok (.istore_n 2, 1) := by decide +kernel
theorem kM_commit_6 : decode mM_commit.2.1 6 = .ok (.aload_n 0, 1) := by decide +kernel
theorem kM_commit_7 : decode mM_commit.2.1 7 = .ok (.iload_n 2, 1) := by decide +kernel
theorem kM_commit_8 : decode mM_commit.2.1 8 = .ok (.ifCond .ge 7, 3) := by decide +kernel
theorem kM_commit_11 : decode mM_commit.2.1 11 = .ok (.iconst 1, 1) := by decide +kernel
theorem kM_commit_12 : decode mM_commit.2.1 12 = .ok (.goto 4, 3) := by decide +kernel
theorem kM_commit_15 : decode mM_commit.2.1 15 = .ok (.iconst 0, 1) := by decide +kernel
theorem kM_commit_16 : decode mM_commit.2.1 16 = .ok (.putfield 45, 3) := by decide +kernel
theorem kM_commit_19 : decode mM_commit.2.1 19 = .ok (.aload_n 0, 1) := by decide +kernel
theorem kM_commit_20 : decode mM_commit.2.1 20 = .ok (.getfield 45, 3) := by decide +kernel
theorem kM_commit_23 : decode mM_commit.2.1 23 = .ok (.ifCond .eq 5, 3) := by decide +kernel
theorem kM_commit_26 : decode mM_commit.2.1 26 = .ok (.iconst 0, 1) := by decide +kernel
theorem kM_commit_27 : decode mM_commit.2.1 27 = .ok (.ireturn, 1) := by decide +kernel
theorem kM_commit_28 : decode mM_commit.2.1 28 = .ok (.aload_n 0, 1) := by decide +kernel
theorem kM_commit_29 : decode mM_commit.2.1 29 = .ok (.iload_n 2, 1) := by decide +kernel
theorem kM_commit_30 : decode mM_commit.2.1 30 = .ok (.invokevirtual 99, 3) := by decide +kernel
theorem kM_commit_33 : decode mM_commit.2.1 33 = .ok (.ifCond .eq 12, 3) := by decide +kernel
theorem kM_commit_36 : decode mM_commit.2.1 36 = .ok (.aload_n 0, 1) := by decide +kernel
theorem kM_commit_37 : decode mM_commit.2.1 37 = .ok (.getfield 27, 3) := by decide +kernel
theorem kM_commit_40 : decode mM_commit.2.1 40 = .ok (.iload_n 2, 1) := by decide +kernel
theorem kM_commit_41 : decode mM_commit.2.1 41 = .ok (.iconst 0, 1) := by decide +kernel
theorem kM_commit_42 : decode mM_commit.2.1 42 = .ok (.iastore, 1) := by decide +kernel
theorem kM_commit_43 : decode mM_commit.2.1 43 = .ok (.iconst (-1), 1) := by decide +kernel
theorem kM_commit_44 : decode mM_commit.2.1 44 = .ok (.ireturn, 1) := by decide +kernel
theorem kM_commit_45 : decode mM_commit.2.1 45 = .ok (.iconst 0, 1) := by decide +kernel
theorem kM_commit_46 : decode mM_commit.2.1 46 = .ok (.istore_n 3, 1) := by decide +kernel
theorem kM_commit_47 : decode mM_commit.2.1 47 = .ok (.bipush 12, 2) := by decide +kernel
theorem kM_commit_49 : decode mM_commit.2.1 49 = .ok (.iload_n 2, 1) := by decide +kernel
theorem kM_commit_50 : decode mM_commit.2.1 50 = .ok (.imul, 1) := by decide +kernel
theorem kM_commit_51 : decode mM_commit.2.1 51 = .ok (.istore 4, 2) := by decide +kernel
theorem kM_commit_53 : decode mM_commit.2.1 53 = .ok (.iload 4, 2) := by decide +kernel
theorem kM_commit_55 : decode mM_commit.2.1 55 = .ok (.bipush 12, 2) := by decide +kernel
theorem kM_commit_57 : decode mM_commit.2.1 57 = .ok (.iload_n 2, 1) := by decide +kernel
theorem kM_commit_58 : decode mM_commit.2.1 58 = .ok (.imul, 1) := by decide +kernel
theorem kM_commit_59 : decode mM_commit.2.1 59 = .ok (.aload_n 0, 1) := by decide +kernel
theorem kM_commit_60 : decode mM_commit.2.1 60 = .ok (.getfield 33, 3) := by decide +kernel
theorem kM_commit_63 : decode mM_commit.2.1 63 = .ok (.iload_n 2, 1) := by decide +kernel
theorem kM_commit_64 : decode mM_commit.2.1 64 = .ok (.iaload, 1) := by decide +kernel
theorem kM_commit_65 : decode mM_commit.2.1 65 = .ok (.iadd, 1) := by decide +kernel
theorem kM_commit_66 : decode mM_commit.2.1 66 = .ok (.if_icmp .ge 27, 3) := by decide +kernel
theorem kM_commit_69 : decode mM_commit.2.1 69 = .ok (.iload_n 3, 1) := by decide +kernel
theorem kM_commit_70 : decode mM_commit.2.1 70 = .ok (.aload_n 0, 1) := by decide +kernel
theorem kM_commit_71 : decode mM_commit.2.1 71 = .ok (.iload_n 2, 1) := by decide +kernel
theorem kM_commit_72 : decode mM_commit.2.1 72 = .ok (.iload 4, 2) := by decide +kernel
theorem kM_commit_74 : decode mM_commit.2.1 74 = .ok (.invokevirtual 102, 3) := by decide +kernel
theorem kM_commit_77 : decode mM_commit.2.1 77 = .ok (.ifCond .eq 7, 3) := by decide +kernel
theorem kM_commit_80 : decode mM_commit.2.1 80 = .ok (.iconst 1, 1) := by decide +kernel
theorem kM_commit_81 : decode mM_commit.2.1 81 = .ok (.goto 4, 3) := by decide +kernel
theorem kM_commit_84 : decode mM_commit.2.1 84 = .ok (.iconst 0, 1) := by decide +kernel
theorem kM_commit_85 : decode mM_commit.2.1 85 = .ok (.iadd, 1) := by decide +kernel
theorem kM_commit_86 : decode mM_commit.2.1 86 = .ok (.istore_n 3, 1) := by decide +kernel
theorem kM_commit_87 : decode mM_commit.2.1 87 = .ok (.iinc 4 1, 3) := by decide +kernel
theorem kM_commit_90 : decode mM_commit.2.1 90 = .ok (.goto (-37), 3) := by decide +kernel
theorem kM_commit_93 : decode mM_commit.2.1 93 = .ok (.aload_n 0, 1) := by decide +kernel
theorem kM_commit_94 : decode mM_commit.2.1 94 = .ok (.getfield 73, 3) := by decide +kernel
theorem kM_commit_97 : decode mM_commit.2.1 97 = .ok (.iload_n 3, 1) := by decide +kernel
theorem kM_commit_98 : decode mM_commit.2.1 98 = .ok (.iadd, 1) := by decide +kernel
theorem kM_commit_99 : decode mM_commit.2.1 99 = .ok (.bipush 48, 2) := by decide +kernel
theorem kM_commit_101 : decode mM_commit.2.1 101 = .ok (.if_icmp .le 10, 3) := by decide +kernel
theorem kM_commit_104 : decode mM_commit.2.1 104 = .ok (.aload_n 0, 1) := by decide +kernel
theorem kM_commit_105 : decode mM_commit.2.1 105 = .ok (.iconst 2, 1) := by decide +kernel
theorem kM_commit_106 : decode mM_commit.2.1 106 = .ok (.putfield 45, 3) := by decide +kernel
theorem kM_commit_109 : decode mM_commit.2.1 109 = .ok (.iconst 0, 1) := by decide +kernel
theorem kM_commit_110 : decode mM_commit.2.1 110 = .ok (.ireturn, 1) := by decide +kernel
theorem kM_commit_111 : decode mM_commit.2.1 111 = .ok (.aload_n 0, 1) := by decide +kernel
theorem kM_commit_112 : decode mM_commit.2.1 112 = .ok (.iload_n 3, 1) := by decide +kernel
theorem kM_commit_113 : decode mM_commit.2.1 113 = .ok (.ifCond .le 12, 3) := by decide +kernel
theorem kM_commit_116 : decode mM_commit.2.1 116 = .ok (.aload_n 0, 1) := by decide +kernel
theorem kM_commit_117 : decode mM_commit.2.1 117 = .ok (.getfield 64, 3) := by decide +kernel
theorem kM_commit_120 : decode mM_commit.2.1 120 = .ok (.iconst 1, 1) := by decide +kernel
theorem kM_commit_121 : decode mM_commit.2.1 121 = .ok (.iadd, 1) := by decide +kernel
theorem kM_commit_122 : decode mM_commit.2.1 122 = .ok (.goto 7, 3) := by decide +kernel
theorem kM_commit_125 : decode mM_commit.2.1 125 = .ok (.aload_n 0, 1) := by decide +kernel
theorem kM_commit_126 : decode mM_commit.2.1 126 = .ok (.getfield 64, 3) := by decide +kernel
theorem kM_commit_129 : decode mM_commit.2.1 129 = .ok (.putfield 64, 3) := by decide +kernel
theorem kM_commit_132 : decode mM_commit.2.1 132 = .ok (.bipush 12, 2) := by decide +kernel
theorem kM_commit_134 : decode mM_commit.2.1 134 = .ok (.iload_n 2, 1) := by decide +kernel
theorem kM_commit_135 : decode mM_commit.2.1 135 = .ok (.imul, 1) := by decide +kernel
theorem kM_commit_136 : decode mM_commit.2.1 136 = .ok (.istore 4, 2) := by decide +kernel
theorem kM_commit_138 : decode mM_commit.2.1 138 = .ok (.iload 4, 2) := by decide +kernel
theorem kM_commit_140 : decode mM_commit.2.1 140 = .ok (.bipush 12, 2) := by decide +kernel
theorem kM_commit_142 : decode mM_commit.2.1 142 = .ok (.iload_n 2, 1) := by decide +kernel
theorem kM_commit_143 : decode mM_commit.2.1 143 = .ok (.imul, 1) := by decide +kernel
theorem kM_commit_144 : decode mM_commit.2.1 144 = .ok (.aload_n 0, 1) := by decide +kernel
theorem kM_commit_145 : decode mM_commit.2.1 145 = .ok (.getfield 33, 3) := by decide +kernel
theorem kM_commit_148 : decode mM_commit.2.1 148 = .ok (.iload_n 2, 1) := by decide +kernel
theorem kM_commit_149 : decode mM_commit.2.1 149 = .ok (.iaload, 1) := by decide +kernel
theorem kM_commit_150 : decode mM_commit.2.1 150 = .ok (.iadd, 1) := by decide +kernel
theorem kM_commit_151 : decode mM_commit.2.1 151 = .ok (.if_icmp .ge 90, 3) := by decide +kernel
theorem kM_commit_154 : decode mM_commit.2.1 154 = .ok (.aload_n 0, 1) := by decide +kernel
theorem kM_commit_155 : decode mM_commit.2.1 155 = .ok (.iload_n 2, 1) := by decide +kernel
theorem kM_commit_156 : decode mM_commit.2.1 156 = .ok (.iload 4, 2) := by decide +kernel
theorem kM_commit_158 : decode mM_commit.2.1 158 = .ok (.invokevirtual 102, 3) := by decide +kernel
theorem kM_commit_161 : decode mM_commit.2.1 161 = .ok (.ifCond .eq 74, 3) := by decide +kernel
theorem kM_commit_164 : decode mM_commit.2.1 164 = .ok (.aload_n 0, 1) := by decide +kernel
theorem kM_commit_165 : decode mM_commit.2.1 165 = .ok (.getfield 7, 3) := by decide +kernel
theorem kM_commit_168 : decode mM_commit.2.1 168 = .ok (.aload_n 0, 1) := by decide +kernel
theorem kM_commit_169 : decode mM_commit.2.1 169 = .ok (.getfield 73, 3) := by decide +kernel
theorem kM_commit_172 : decode mM_commit.2.1 172 = .ok (.aload_n 0, 1) := by decide +kernel
theorem kM_commit_173 : decode mM_commit.2.1 173 = .ok (.getfield 36, 3) := by decide +kernel
theorem kM_commit_176 : decode mM_commit.2.1 176 = .ok (.iload 4, 2) := by decide +kernel
theorem kM_commit_178 : decode mM_commit.2.1 178 = .ok (.iaload, 1) := by decide +kernel
theorem kM_commit_179 : decode mM_commit.2.1 179 = .ok (.iastore, 1) := by decide +kernel
theorem kM_commit_180 : decode mM_commit.2.1 180 = .ok (.aload_n 0, 1) := by decide +kernel
theorem kM_commit_181 : decode mM_commit.2.1 181 = .ok (.getfield 13, 3) := by decide +kernel
theorem kM_commit_184 : decode mM_commit.2.1 184 = .ok (.aload_n 0, 1) := by decide +kernel
theorem kM_commit_185 : decode mM_commit.2.1 185 = .ok (.getfield 73, 3) := by decide +kernel
theorem kM_commit_188 : decode mM_commit.2.1 188 = .ok (.aload_n 0, 1) := by decide +kernel
theorem kM_commit_189 : decode mM_commit.2.1 189 = .ok (.getfield 64, 3) := by decide +kernel
theorem kM_commit_192 : decode mM_commit.2.1 192 = .ok (.iastore, 1) := by decide +kernel
theorem kM_commit_193 : decode mM_commit.2.1 193 = .ok (.aload_n 0, 1) := by decide +kernel
theorem kM_commit_194 : decode mM_commit.2.1 194 = .ok (.getfield 16, 3) := by decide +kernel
theorem kM_commit_197 : decode mM_commit.2.1 197 = .ok (.aload_n 0, 1) := by decide +kernel
theorem kM_commit_198 : decode mM_commit.2.1 198 = .ok (.getfield 73, 3) := by decide +kernel
theorem kM_commit_201 : decode mM_commit.2.1 201 = .ok (.aload_n 0, 1) := by decide +kernel
theorem kM_commit_202 : decode mM_commit.2.1 202 = .ok (.getfield 39, 3) := by decide +kernel
theorem kM_commit_205 : decode mM_commit.2.1 205 = .ok (.iload 4, 2) := by decide +kernel
theorem kM_commit_207 : decode mM_commit.2.1 207 = .ok (.laload, 1) := by decide +kernel
theorem kM_commit_208 : decode mM_commit.2.1 208 = .ok (.lastore, 1) := by decide +kernel
theorem kM_commit_209 : decode mM_commit.2.1 209 = .ok (.aload_n 0, 1) := by decide +kernel
theorem kM_commit_210 : decode mM_commit.2.1 210 = .ok (.getfield 20, 3) := by decide +kernel
theorem kM_commit_213 : decode mM_commit.2.1 213 = .ok (.aload_n 0, 1) := by decide +kernel
theorem kM_commit_214 : decode mM_commit.2.1 214 = .ok (.getfield 73, 3) := by decide +kernel
theorem kM_commit_217 : decode mM_commit.2.1 217 = .ok (.aload_n 0, 1) := by decide +kernel
theorem kM_commit_218 : decode mM_commit.2.1 218 = .ok (.getfield 42, 3) := by decide +kernel
theorem kM_commit_221 : decode mM_commit.2.1 221 = .ok (.iload 4, 2) := by decide +kernel
theorem kM_commit_223 : decode mM_commit.2.1 223 = .ok (.baload, 1) := by decide +kernel
theorem kM_commit_224 : decode mM_commit.2.1 224 = .ok (.bastore, 1) := by decide +kernel
theorem kM_commit_225 : decode mM_commit.2.1 225 = .ok (.aload_n 0, 1) := by decide +kernel
theorem kM_commit_226 : decode mM_commit.2.1 226 = .ok (.dup, 1) := by decide +kernel
theorem kM_commit_227 : decode mM_commit.2.1 227 = .ok (.getfield 73, 3) := by decide +kernel
theorem kM_commit_230 : decode mM_commit.2.1 230 = .ok (.iconst 1, 1) := by decide +kernel
theorem kM_commit_231 : decode mM_commit.2.1 231 = .ok (.iadd, 1) := by decide +kernel
theorem kM_commit_232 : decode mM_commit.2.1 232 = .ok (.putfield 73, 3) := by decide +kernel
theorem kM_commit_235 : decode mM_commit.2.1 235 = .ok (.iinc 4 1, 3) := by decide +kernel
theorem kM_commit_238 : decode mM_commit.2.1 238 = .ok (.goto (-100), 3) := by decide +kernel
theorem kM_commit_241 : decode mM_commit.2.1 241 = .ok (.aload_n 0, 1) := by decide +kernel
theorem kM_commit_242 : decode mM_commit.2.1 242 = .ok (.getfield 27, 3) := by decide +kernel
theorem kM_commit_245 : decode mM_commit.2.1 245 = .ok (.iload_n 2, 1) := by decide +kernel
theorem kM_commit_246 : decode mM_commit.2.1 246 = .ok (.iconst 0, 1) := by decide +kernel
theorem kM_commit_247 : decode mM_commit.2.1 247 = .ok (.iastore, 1) := by decide +kernel
theorem kM_commit_248 : decode mM_commit.2.1 248 = .ok (.aload_n 0, 1) := by decide +kernel
theorem kM_commit_249 : decode mM_commit.2.1 249 = .ok (.getfield 64, 3) := by decide +kernel
theorem kM_commit_252 : decode mM_commit.2.1 252 = .ok (.ireturn, 1) := by decide +kernel
theorem kM_abort_0 : decode mM_abort.2.1 0 = .ok (.aload_n 0, 1) := by decide +kernel
theorem kM_abort_1 : decode mM_abort.2.1 1 = .ok (.iload_n 1, 1) := by decide +kernel
theorem kM_abort_2 : decode mM_abort.2.1 2 = .ok (.invokevirtual 49, 3) := by decide +kernel
theorem kM_abort_5 : decode mM_abort.2.1 5 = .ok (.istore_n 2, 1) := by decide +kernel
theorem kM_abort_6 : decode mM_abort.2.1 6 = .ok (.aload_n 0, 1) := by decide +kernel
theorem kM_abort_7 : decode mM_abort.2.1 7 = .ok (.iload_n 2, 1) := by decide +kernel
theorem kM_abort_8 : decode mM_abort.2.1 8 = .ok (.ifCond .ge 7, 3) := by decide +kernel
theorem kM_abort_11 : decode mM_abort.2.1 11 = .ok (.iconst 1, 1) := by decide +kernel
theorem kM_abort_12 : decode mM_abort.2.1 12 = .ok (.goto 4, 3) := by decide +kernel
theorem kM_abort_15 : decode mM_abort.2.1 15 = .ok (.iconst 0, 1) := by decide +kernel
theorem kM_abort_16 : decode mM_abort.2.1 16 = .ok (.putfield 45, 3) := by decide +kernel
theorem kM_abort_19 : decode mM_abort.2.1 19 = .ok (.aload_n 0, 1) := by decide +kernel
theorem kM_abort_20 : decode mM_abort.2.1 20 = .ok (.getfield 45, 3) := by decide +kernel
theorem kM_abort_23 : decode mM_abort.2.1 23 = .ok (.ifCond .ne 10, 3) := by decide +kernel
theorem kM_abort_26 : decode mM_abort.2.1 26 = .ok (.aload_n 0, 1) := by decide +kernel
theorem kM_abort_27 : decode mM_abort.2.1 27 = .ok (.getfield 27, 3) := by decide +kernel
theorem kM_abort_30 : decode mM_abort.2.1 30 = .ok (.iload_n 2, 1) := by decide +kernel
theorem kM_abort_31 : decode mM_abort.2.1 31 = .ok (.iconst 0, 1) := by decide +kernel
theorem kM_abort_32 : decode mM_abort.2.1 32 = .ok (.iastore, 1) := by decide +kernel
theorem kM_abort_33 : decode mM_abort.2.1 33 = .ok (.return_, 1) := by decide +kernel
theorem kM_vacuum_0 : decode mM_vacuum.2.1 0 = .ok (.aload_n 0, 1) := by decide +kernel
theorem kM_vacuum_1 : decode mM_vacuum.2.1 1 = .ok (.iconst 0, 1) := by decide +kernel
theorem kM_vacuum_2 : decode mM_vacuum.2.1 2 = .ok (.putfield 45, 3) := by decide +kernel
theorem kM_vacuum_5 : decode mM_vacuum.2.1 5 = .ok (.iconst 0, 1) := by decide +kernel
theorem kM_vacuum_6 : decode mM_vacuum.2.1 6 = .ok (.istore_n 1, 1) := by decide +kernel
theorem kM_vacuum_7 : decode mM_vacuum.2.1 7 = .ok (.aload_n 0, 1) := by decide +kernel
theorem kM_vacuum_8 : decode mM_vacuum.2.1 8 = .ok (.getfield 73, 3) := by decide +kernel
theorem kM_vacuum_11 : decode mM_vacuum.2.1 11 = .ok (.istore_n 2, 1) := by decide +kernel
theorem kM_vacuum_12 : decode mM_vacuum.2.1 12 = .ok (.iconst 0, 1) := by decide +kernel
theorem kM_vacuum_13 : decode mM_vacuum.2.1 13 = .ok (.istore_n 3, 1) := by decide +kernel
theorem kM_vacuum_14 : decode mM_vacuum.2.1 14 = .ok (.iload_n 3, 1) := by decide +kernel
theorem kM_vacuum_15 : decode mM_vacuum.2.1 15 = .ok (.iload_n 2, 1) := by decide +kernel
theorem kM_vacuum_16 : decode mM_vacuum.2.1 16 = .ok (.if_icmp .ge 20, 3) := by decide +kernel
theorem kM_vacuum_19 : decode mM_vacuum.2.1 19 = .ok (.aload_n 0, 1) := by decide +kernel
theorem kM_vacuum_20 : decode mM_vacuum.2.1 20 = .ok (.getfield 24, 3) := by decide +kernel
theorem kM_vacuum_23 : decode mM_vacuum.2.1 23 = .ok (.iload_n 3, 1) := by decide +kernel
theorem kM_vacuum_24 : decode mM_vacuum.2.1 24 = .ok (.aload_n 0, 1) := by decide +kernel
theorem kM_vacuum_25 : decode mM_vacuum.2.1 25 = .ok (.iload_n 3, 1) := by decide +kernel
theorem kM_vacuum_26 : decode mM_vacuum.2.1 26 = .ok (.invokevirtual 105, 3) := by decide +kernel
theorem kM_vacuum_29 : decode mM_vacuum.2.1 29 = .ok (.bastore, 1) := by decide +kernel
theorem kM_vacuum_30 : decode mM_vacuum.2.1 30 = .ok (.iinc 3 1, 3) := by decide +kernel
theorem kM_vacuum_33 : decode mM_vacuum.2.1 33 = .ok (.goto (-19), 3) := by decide +kernel
theorem kM_vacuum_36 : decode mM_vacuum.2.1 36 = .ok (.iconst 0, 1) := by decide +kernel
theorem kM_vacuum_37 : decode mM_vacuum.2.1 37 = .ok (.istore_n 3, 1) := by decide +kernel
theorem kM_vacuum_38 : decode mM_vacuum.2.1 38 = .ok (.iload_n 3, 1) := by decide +kernel
theorem kM_vacuum_39 : decode mM_vacuum.2.1 39 = .ok (.iload_n 2, 1) := by decide +kernel
theorem kM_vacuum_40 : decode mM_vacuum.2.1 40 = .ok (.if_icmp .ge 69, 3) := by decide +kernel
theorem kM_vacuum_43 : decode mM_vacuum.2.1 43 = .ok (.aload_n 0, 1) := by decide +kernel
theorem kM_vacuum_44 : decode mM_vacuum.2.1 44 = .ok (.getfield 24, 3) := by decide +kernel
theorem kM_vacuum_47 : decode mM_vacuum.2.1 47 = .ok (.iload_n 3, 1) := by decide +kernel
theorem kM_vacuum_48 : decode mM_vacuum.2.1 48 = .ok (.baload, 1) := by decide +kernel
theorem kM_vacuum_49 : decode mM_vacuum.2.1 49 = .ok (.ifCond .eq 54, 3) := by decide +kernel
theorem kM_vacuum_52 : decode mM_vacuum.2.1 52 = .ok (.aload_n 0, 1) := by decide +kernel
theorem kM_vacuum_53 : decode mM_vacuum.2.1 53 = .ok (.getfield 7, 3) := by decide +kernel
theorem kM_vacuum_56 : decode mM_vacuum.2.1 56 = .ok (.iload_n 1, 1) := by decide +kernel
theorem kM_vacuum_57 : decode mM_vacuum.2.1 57 = .ok (.aload_n 0, 1) := by decide +kernel
theorem kM_vacuum_58 : decode mM_vacuum.2.1 58 = .ok (.getfield 7, 3) := by decide +kernel
theorem kM_vacuum_61 : decode mM_vacuum.2.1 61 = .ok (.iload_n 3, 1) := by decide +kernel
theorem kM_vacuum_62 : decode mM_vacuum.2.1 62 = .ok (.iaload, 1) := by decide +kernel
theorem kM_vacuum_63 : decode mM_vacuum.2.1 63 = .ok (.iastore, 1) := by decide +kernel
theorem kM_vacuum_64 : decode mM_vacuum.2.1 64 = .ok (.aload_n 0, 1) := by decide +kernel
theorem kM_vacuum_65 : decode mM_vacuum.2.1 65 = .ok (.getfield 13, 3) := by decide +kernel
theorem kM_vacuum_68 : decode mM_vacuum.2.1 68 = .ok (.iload_n 1, 1) := by decide +kernel
theorem kM_vacuum_69 : decode mM_vacuum.2.1 69 = .ok (.aload_n 0, 1) := by decide +kernel
theorem kM_vacuum_70 : decode mM_vacuum.2.1 70 = .ok (.getfield 13, 3) := by decide +kernel
theorem kM_vacuum_73 : decode mM_vacuum.2.1 73 = .ok (.iload_n 3, 1) := by decide +kernel
theorem kM_vacuum_74 : decode mM_vacuum.2.1 74 = .ok (.iaload, 1) := by decide +kernel
theorem kM_vacuum_75 : decode mM_vacuum.2.1 75 = .ok (.iastore, 1) := by decide +kernel
theorem kM_vacuum_76 : decode mM_vacuum.2.1 76 = .ok (.aload_n 0, 1) := by decide +kernel
theorem kM_vacuum_77 : decode mM_vacuum.2.1 77 = .ok (.getfield 16, 3) := by decide +kernel
theorem kM_vacuum_80 : decode mM_vacuum.2.1 80 = .ok (.iload_n 1, 1) := by decide +kernel
theorem kM_vacuum_81 : decode mM_vacuum.2.1 81 = .ok (.aload_n 0, 1) := by decide +kernel
theorem kM_vacuum_82 : decode mM_vacuum.2.1 82 = .ok (.getfield 16, 3) := by decide +kernel
theorem kM_vacuum_85 : decode mM_vacuum.2.1 85 = .ok (.iload_n 3, 1) := by decide +kernel
theorem kM_vacuum_86 : decode mM_vacuum.2.1 86 = .ok (.laload, 1) := by decide +kernel
theorem kM_vacuum_87 : decode mM_vacuum.2.1 87 = .ok (.lastore, 1) := by decide +kernel
theorem kM_vacuum_88 : decode mM_vacuum.2.1 88 = .ok (.aload_n 0, 1) := by decide +kernel
theorem kM_vacuum_89 : decode mM_vacuum.2.1 89 = .ok (.getfield 20, 3) := by decide +kernel
theorem kM_vacuum_92 : decode mM_vacuum.2.1 92 = .ok (.iload_n 1, 1) := by decide +kernel
theorem kM_vacuum_93 : decode mM_vacuum.2.1 93 = .ok (.aload_n 0, 1) := by decide +kernel
theorem kM_vacuum_94 : decode mM_vacuum.2.1 94 = .ok (.getfield 20, 3) := by decide +kernel
theorem kM_vacuum_97 : decode mM_vacuum.2.1 97 = .ok (.iload_n 3, 1) := by decide +kernel
theorem kM_vacuum_98 : decode mM_vacuum.2.1 98 = .ok (.baload, 1) := by decide +kernel
theorem kM_vacuum_99 : decode mM_vacuum.2.1 99 = .ok (.bastore, 1) := by decide +kernel
theorem kM_vacuum_100 : decode mM_vacuum.2.1 100 = .ok (.iinc 1 1, 3) := by decide +kernel
theorem kM_vacuum_103 : decode mM_vacuum.2.1 103 = .ok (.iinc 3 1, 3) := by decide +kernel
theorem kM_vacuum_106 : decode mM_vacuum.2.1 106 = .ok (.goto (-68), 3) := by decide +kernel
theorem kM_vacuum_109 : decode mM_vacuum.2.1 109 = .ok (.aload_n 0, 1) := by decide +kernel
theorem kM_vacuum_110 : decode mM_vacuum.2.1 110 = .ok (.iload_n 1, 1) := by decide +kernel
theorem kM_vacuum_111 : decode mM_vacuum.2.1 111 = .ok (.putfield 73, 3) := by decide +kernel
theorem kM_vacuum_114 : decode mM_vacuum.2.1 114 = .ok (.aload_n 0, 1) := by decide +kernel
theorem kM_vacuum_115 : decode mM_vacuum.2.1 115 = .ok (.aload_n 0, 1) := by decide +kernel
theorem kM_vacuum_116 : decode mM_vacuum.2.1 116 = .ok (.getfield 64, 3) := by decide +kernel
theorem kM_vacuum_119 : decode mM_vacuum.2.1 119 = .ok (.putfield 70, 3) := by decide +kernel
theorem kM_vacuum_122 : decode mM_vacuum.2.1 122 = .ok (.iload_n 2, 1) := by decide +kernel
theorem kM_vacuum_123 : decode mM_vacuum.2.1 123 = .ok (.iload_n 1, 1) := by decide +kernel
theorem kM_vacuum_124 : decode mM_vacuum.2.1 124 = .ok (.isub, 1) := by decide +kernel
theorem kM_vacuum_125 : decode mM_vacuum.2.1 125 = .ok (.ireturn, 1) := by decide +kernel
theorem kM_needed_0 : decode mM_needed.2.1 0 = .ok (.aload_n 0, 1) := by decide +kernel
theorem kM_needed_1 : decode mM_needed.2.1 1 = .ok (.aload_n 0, 1) := by decide +kernel
theorem kM_needed_2 : decode mM_needed.2.1 2 = .ok (.getfield 7, 3) := by decide +kernel
theorem kM_needed_5 : decode mM_needed.2.1 5 = .ok (.iload_n 1, 1) := by decide +kernel
theorem kM_needed_6 : decode mM_needed.2.1 6 = .ok (.iaload, 1) := by decide +kernel
theorem kM_needed_7 : decode mM_needed.2.1 7 = .ok (.aload_n 0, 1) := by decide +kernel
theorem kM_needed_8 : decode mM_needed.2.1 8 = .ok (.getfield 64, 3) := by decide +kernel
theorem kM_needed_11 : decode mM_needed.2.1 11 = .ok (.invokevirtual 76, 3) := by decide +kernel
theorem kM_needed_14 : decode mM_needed.2.1 14 = .ok (.iload_n 1, 1) := by decide +kernel
theorem kM_needed_15 : decode mM_needed.2.1 15 = .ok (.if_icmp .ne 7, 3) := by decide +kernel
theorem kM_needed_18 : decode mM_needed.2.1 18 = .ok (.iconst 1, 1) := by decide +kernel
theorem kM_needed_19 : decode mM_needed.2.1 19 = .ok (.goto 4, 3) := by decide +kernel
theorem kM_needed_22 : decode mM_needed.2.1 22 = .ok (.iconst 0, 1) := by decide +kernel
theorem kM_needed_23 : decode mM_needed.2.1 23 = .ok (.istore_n 2, 1) := by decide +kernel
theorem kM_needed_24 : decode mM_needed.2.1 24 = .ok (.iconst 0, 1) := by decide +kernel
theorem kM_needed_25 : decode mM_needed.2.1 25 = .ok (.istore_n 3, 1) := by decide +kernel
theorem kM_needed_26 : decode mM_needed.2.1 26 = .ok (.iload_n 3, 1) := by decide +kernel
theorem kM_needed_27 : decode mM_needed.2.1 27 = .ok (.bipush 6, 2) := by decide +kernel
theorem kM_needed_29 : decode mM_needed.2.1 29 = .ok (.if_icmp .ge 48, 3) := by decide +kernel
theorem kM_needed_32 : decode mM_needed.2.1 32 = .ok (.iload_n 2, 1) := by decide +kernel
theorem kM_needed_33 : decode mM_needed.2.1 33 = .ok (.ifCond .ne 32, 3) := by decide +kernel
theorem kM_needed_36 : decode mM_needed.2.1 36 = .ok (.aload_n 0, 1) := by decide +kernel
theorem kM_needed_37 : decode mM_needed.2.1 37 = .ok (.getfield 27, 3) := by decide +kernel
theorem kM_needed_40 : decode mM_needed.2.1 40 = .ok (.iload_n 3, 1) := by decide +kernel
theorem kM_needed_41 : decode mM_needed.2.1 41 = .ok (.iaload, 1) := by decide +kernel
theorem kM_needed_42 : decode mM_needed.2.1 42 = .ok (.ifCond .le 27, 3) := by decide +kernel
theorem kM_needed_45 : decode mM_needed.2.1 45 = .ok (.aload_n 0, 1) := by decide +kernel
theorem kM_needed_46 : decode mM_needed.2.1 46 = .ok (.aload_n 0, 1) := by decide +kernel
theorem kM_needed_47 : decode mM_needed.2.1 47 = .ok (.getfield 7, 3) := by decide +kernel
theorem kM_needed_50 : decode mM_needed.2.1 50 = .ok (.iload_n 1, 1) := by decide +kernel
theorem kM_needed_51 : decode mM_needed.2.1 51 = .ok (.iaload, 1) := by decide +kernel
theorem kM_needed_52 : decode mM_needed.2.1 52 = .ok (.aload_n 0, 1) := by decide +kernel
theorem kM_needed_53 : decode mM_needed.2.1 53 = .ok (.getfield 30, 3) := by decide +kernel
theorem kM_needed_56 : decode mM_needed.2.1 56 = .ok (.iload_n 3, 1) := by decide +kernel
theorem kM_needed_57 : decode mM_needed.2.1 57 = .ok (.iaload, 1) := by decide +kernel
theorem kM_needed_58 : decode mM_needed.2.1 58 = .ok (.invokevirtual 76, 3) := by decide +kernel
theorem kM_needed_61 : decode mM_needed.2.1 61 = .ok (.iload_n 1, 1) := by decide +kernel
theorem kM_needed_62 : decode mM_needed.2.1 62 = .ok (.if_icmp .ne 7, 3) := by decide +kernel
theorem kM_needed_65 : decode mM_needed.2.1 65 = .ok (.iconst 1, 1) := by decide +kernel
theorem kM_needed_66 : decode mM_needed.2.1 66 = .ok (.goto 4, 3) := by decide +kernel
theorem kM_needed_69 : decode mM_needed.2.1 69 = .ok (.iconst 0, 1) := by decide +kernel
theorem kM_needed_70 : decode mM_needed.2.1 70 = .ok (.istore_n 2, 1) := by decide +kernel
theorem kM_needed_71 : decode mM_needed.2.1 71 = .ok (.iinc 3 1, 3) := by decide +kernel
theorem kM_needed_74 : decode mM_needed.2.1 74 = .ok (.goto (-48), 3) := by decide +kernel
theorem kM_needed_77 : decode mM_needed.2.1 77 = .ok (.iload_n 2, 1) := by decide +kernel
theorem kM_needed_78 : decode mM_needed.2.1 78 = .ok (.ireturn, 1) := by decide +kernel
theorem kM_time_0 : decode mM_time.2.1 0 = .ok (.aload_n 0, 1) := by decide +kernel
theorem kM_time_1 : decode mM_time.2.1 1 = .ok (.iconst 0, 1) := by decide +kernel
theorem kM_time_2 : decode mM_time.2.1 2 = .ok (.putfield 45, 3) := by decide +kernel
theorem kM_time_5 : decode mM_time.2.1 5 = .ok (.aload_n 0, 1) := by decide +kernel
theorem kM_time_6 : decode mM_time.2.1 6 = .ok (.getfield 64, 3) := by decide +kernel
theorem kM_time_9 : decode mM_time.2.1 9 = .ok (.ireturn, 1) := by decide +kernel
theorem kM_live_0 : decode mM_live.2.1 0 = .ok (.aload_n 0, 1) := by decide +kernel
theorem kM_live_1 : decode mM_live.2.1 1 = .ok (.iconst 0, 1) := by decide +kernel
theorem kM_live_2 : decode mM_live.2.1 2 = .ok (.putfield 45, 3) := by decide +kernel
theorem kM_live_5 : decode mM_live.2.1 5 = .ok (.aload_n 0, 1) := by decide +kernel
theorem kM_live_6 : decode mM_live.2.1 6 = .ok (.invokevirtual 60, 3) := by decide +kernel
theorem kM_live_9 : decode mM_live.2.1 9 = .ok (.ireturn, 1) := by decide +kernel
theorem kM_start_0 : decode mM_start.2.1 0 = .ok (.aload_n 0, 1) := by decide +kernel
theorem kM_start_1 : decode mM_start.2.1 1 = .ok (.aload_n 0, 1) := by decide +kernel
theorem kM_start_2 : decode mM_start.2.1 2 = .ok (.iload_n 1, 1) := by decide +kernel
theorem kM_start_3 : decode mM_start.2.1 3 = .ok (.invokevirtual 49, 3) := by decide +kernel
theorem kM_start_6 : decode mM_start.2.1 6 = .ok (.ifCond .ge 7, 3) := by decide +kernel
theorem kM_start_9 : decode mM_start.2.1 9 = .ok (.iconst 1, 1) := by decide +kernel
theorem kM_start_10 : decode mM_start.2.1 10 = .ok (.goto 4, 3) := by decide +kernel
theorem kM_start_13 : decode mM_start.2.1 13 = .ok (.iconst 0, 1) := by decide +kernel
theorem kM_start_14 : decode mM_start.2.1 14 = .ok (.putfield 45, 3) := by decide +kernel
theorem kM_start_17 : decode mM_start.2.1 17 = .ok (.aload_n 0, 1) := by decide +kernel
theorem kM_start_18 : decode mM_start.2.1 18 = .ok (.getfield 45, 3) := by decide +kernel
theorem kM_start_21 : decode mM_start.2.1 21 = .ok (.ifCond .ne 16, 3) := by decide +kernel
theorem kM_start_24 : decode mM_start.2.1 24 = .ok (.aload_n 0, 1) := by decide +kernel
theorem kM_start_25 : decode mM_start.2.1 25 = .ok (.getfield 30, 3) := by decide +kernel
theorem kM_start_28 : decode mM_start.2.1 28 = .ok (.aload_n 0, 1) := by decide +kernel
theorem kM_start_29 : decode mM_start.2.1 29 = .ok (.iload_n 1, 1) := by decide +kernel
theorem kM_start_30 : decode mM_start.2.1 30 = .ok (.invokevirtual 49, 3) := by decide +kernel
theorem kM_start_33 : decode mM_start.2.1 33 = .ok (.iaload, 1) := by decide +kernel
theorem kM_start_34 : decode mM_start.2.1 34 = .ok (.goto 4, 3) := by decide +kernel
theorem kM_start_37 : decode mM_start.2.1 37 = .ok (.iconst 0, 1) := by decide +kernel
theorem kM_start_38 : decode mM_start.2.1 38 = .ok (.ireturn, 1) := by decide +kernel
theorem kM_versions_0 : decode mM_versions.2.1 0 = .ok (.aload_n 0, 1) := by decide +kernel
theorem kM_versions_1 : decode mM_versions.2.1 1 = .ok (.iload_n 1, 1) := by decide +kernel
theorem kM_versions_2 : decode mM_versions.2.1 2 = .ok (.invokestatic 53, 3) := by decide +kernel
theorem kM_versions_5 : decode mM_versions.2.1 5 = .ok (.ifCond .eq 7, 3) := by decide +kernel
theorem kM_versions_8 : decode mM_versions.2.1 8 = .ok (.iconst 0, 1) := by decide +kernel
theorem kM_versions_9 : decode mM_versions.2.1 9 = .ok (.goto 4, 3) := by decide +kernel
theorem kM_versions_12 : decode mM_versions.2.1 12 = .ok (.iconst 1, 1) := by decide +kernel
theorem kM_versions_13 : decode mM_versions.2.1 13 = .ok (.putfield 45, 3) := by decide +kernel
theorem kM_versions_16 : decode mM_versions.2.1 16 = .ok (.iconst 0, 1) := by decide +kernel
theorem kM_versions_17 : decode mM_versions.2.1 17 = .ok (.istore_n 2, 1) := by decide +kernel
theorem kM_versions_18 : decode mM_versions.2.1 18 = .ok (.iconst 0, 1) := by decide +kernel
theorem kM_versions_19 : decode mM_versions.2.1 19 = .ok (.istore_n 3, 1) := by decide +kernel
theorem kM_versions_20 : decode mM_versions.2.1 20 = .ok (.iload_n 3, 1) := by decide +kernel
theorem kM_versions_21 : decode mM_versions.2.1 21 = .ok (.aload_n 0, 1) := by decide +kernel
theorem kM_versions_22 : decode mM_versions.2.1 22 = .ok (.getfield 73, 3) := by decide +kernel
theorem kM_versions_25 : decode mM_versions.2.1 25 = .ok (.if_icmp .ge 27, 3) := by decide +kernel
theorem kM_versions_28 : decode mM_versions.2.1 28 = .ok (.iload_n 2, 1) := by decide +kernel
theorem kM_versions_29 : decode mM_versions.2.1 29 = .ok (.aload_n 0, 1) := by decide +kernel
theorem kM_versions_30 : decode mM_versions.2.1 30 = .ok (.getfield 7, 3) := by decide +kernel
theorem kM_versions_33 : decode mM_versions.2.1 33 = .ok (.iload_n 3, 1) := by decide +kernel
theorem kM_versions_34 : decode mM_versions.2.1 34 = .ok (.iaload, 1) := by decide +kernel
theorem kM_versions_35 : decode mM_versions.2.1 35 = .ok (.iload_n 1, 1) := by decide +kernel
theorem kM_versions_36 : decode mM_versions.2.1 36 = .ok (.if_icmp .ne 7, 3) := by decide +kernel
theorem kM_versions_39 : decode mM_versions.2.1 39 = .ok (.iconst 1, 1) := by decide +kernel
theorem kM_versions_40 : decode mM_versions.2.1 40 = .ok (.goto 4, 3) := by decide +kernel
theorem kM_versions_43 : decode mM_versions.2.1 43 = .ok (.iconst 0, 1) := by decide +kernel
theorem kM_versions_44 : decode mM_versions.2.1 44 = .ok (.iadd, 1) := by decide +kernel
theorem kM_versions_45 : decode mM_versions.2.1 45 = .ok (.istore_n 2, 1) := by decide +kernel
theorem kM_versions_46 : decode mM_versions.2.1 46 = .ok (.iinc 3 1, 3) := by decide +kernel
theorem kM_versions_49 : decode mM_versions.2.1 49 = .ok (.goto (-29), 3) := by decide +kernel
theorem kM_versions_52 : decode mM_versions.2.1 52 = .ok (.aload_n 0, 1) := by decide +kernel
theorem kM_versions_53 : decode mM_versions.2.1 53 = .ok (.getfield 45, 3) := by decide +kernel
theorem kM_versions_56 : decode mM_versions.2.1 56 = .ok (.ifCond .ne 7, 3) := by decide +kernel
theorem kM_versions_59 : decode mM_versions.2.1 59 = .ok (.iload_n 2, 1) := by decide +kernel
theorem kM_versions_60 : decode mM_versions.2.1 60 = .ok (.goto 4, 3) := by decide +kernel
theorem kM_versions_63 : decode mM_versions.2.1 63 = .ok (.iconst 0, 1) := by decide +kernel
theorem kM_versions_64 : decode mM_versions.2.1 64 = .ok (.ireturn, 1) := by decide +kernel
theorem kM_counted_0 : decode mM_counted.2.1 0 = .ok (.iconst (-1), 1) := by decide +kernel
theorem kM_counted_1 : decode mM_counted.2.1 1 = .ok (.istore_n 3, 1) := by decide +kernel
theorem kM_counted_2 : decode mM_counted.2.1 2 = .ok (.aload_n 0, 1) := by decide +kernel
theorem kM_counted_3 : decode mM_counted.2.1 3 = .ok (.getfield 73, 3) := by decide +kernel
theorem kM_counted_6 : decode mM_counted.2.1 6 = .ok (.iconst 1, 1) := by decide +kernel
theorem kM_counted_7 : decode mM_counted.2.1 7 = .ok (.isub, 1) := by decide +kernel
theorem kM_counted_8 : decode mM_counted.2.1 8 = .ok (.istore 4, 2) := by decide +kernel
theorem kM_counted_10 : decode mM_counted.2.1 10 = .ok (.iload 4, 2) := by decide +kernel
theorem kM_counted_12 : decode mM_counted.2.1 12 = .ok (.ifCond .lt 47, 3) := by decide +kernel
theorem kM_counted_15 : decode mM_counted.2.1 15 = .ok (.iload_n 3, 1) := by decide +kernel
theorem kM_counted_16 : decode mM_counted.2.1 16 = .ok (.aload_n 0, 1) := by decide +kernel
theorem kM_counted_17 : decode mM_counted.2.1 17 = .ok (.getfield 7, 3) := by decide +kernel
theorem kM_counted_20 : decode mM_counted.2.1 20 = .ok (.iload 4, 2) := by decide +kernel
theorem kM_counted_22 : decode mM_counted.2.1 22 = .ok (.iaload, 1) := by decide +kernel
theorem kM_counted_23 : decode mM_counted.2.1 23 = .ok (.iload_n 1, 1) := by decide +kernel
theorem kM_counted_24 : decode mM_counted.2.1 24 = .ok (.if_icmp .ne 7, 3) := by decide +kernel
theorem kM_counted_27 : decode mM_counted.2.1 27 = .ok (.iconst 1, 1) := by decide +kernel
theorem kM_counted_28 : decode mM_counted.2.1 28 = .ok (.goto 4, 3) := by decide +kernel
theorem kM_counted_31 : decode mM_counted.2.1 31 = .ok (.iconst 0, 1) := by decide +kernel
theorem kM_counted_32 : decode mM_counted.2.1 32 = .ok (.iadd, 1) := by decide +kernel
theorem kM_counted_33 : decode mM_counted.2.1 33 = .ok (.istore_n 3, 1) := by decide +kernel
theorem kM_counted_34 : decode mM_counted.2.1 34 = .ok (.aload_n 0, 1) := by decide +kernel
theorem kM_counted_35 : decode mM_counted.2.1 35 = .ok (.getfield 7, 3) := by decide +kernel
theorem kM_counted_38 : decode mM_counted.2.1 38 = .ok (.iload 4, 2) := by decide +kernel
theorem kM_counted_40 : decode mM_counted.2.1 40 = .ok (.iaload, 1) := by decide +kernel
theorem kM_counted_41 : decode mM_counted.2.1 41 = .ok (.iload_n 1, 1) := by decide +kernel
theorem kM_counted_42 : decode mM_counted.2.1 42 = .ok (.if_icmp .ne 11, 3) := by decide +kernel
theorem kM_counted_45 : decode mM_counted.2.1 45 = .ok (.iload_n 3, 1) := by decide +kernel
theorem kM_counted_46 : decode mM_counted.2.1 46 = .ok (.iload_n 2, 1) := by decide +kernel
theorem kM_counted_47 : decode mM_counted.2.1 47 = .ok (.if_icmp .ne 6, 3) := by decide +kernel
theorem kM_counted_50 : decode mM_counted.2.1 50 = .ok (.iload 4, 2) := by decide +kernel
theorem kM_counted_52 : decode mM_counted.2.1 52 = .ok (.ireturn, 1) := by decide +kernel
theorem kM_counted_53 : decode mM_counted.2.1 53 = .ok (.iinc 4 (-1), 3) := by decide +kernel
theorem kM_counted_56 : decode mM_counted.2.1 56 = .ok (.goto (-46), 3) := by decide +kernel
theorem kM_counted_59 : decode mM_counted.2.1 59 = .ok (.iconst (-1), 1) := by decide +kernel
theorem kM_counted_60 : decode mM_counted.2.1 60 = .ok (.ireturn, 1) := by decide +kernel
theorem kM_timeOf_0 : decode mM_timeOf.2.1 0 = .ok (.aload_n 0, 1) := by decide +kernel
theorem kM_timeOf_1 : decode mM_timeOf.2.1 1 = .ok (.iload_n 1, 1) := by decide +kernel
theorem kM_timeOf_2 : decode mM_timeOf.2.1 2 = .ok (.invokestatic 53, 3) := by decide +kernel
theorem kM_timeOf_5 : decode mM_timeOf.2.1 5 = .ok (.ifCond .ne 7, 3) := by decide +kernel
theorem kM_timeOf_8 : decode mM_timeOf.2.1 8 = .ok (.iconst 1, 1) := by decide +kernel
theorem kM_timeOf_9 : decode mM_timeOf.2.1 9 = .ok (.goto 17, 3) := by decide +kernel
theorem kM_timeOf_12 : decode mM_timeOf.2.1 12 = .ok (.aload_n 0, 1) := by decide +kernel
theorem kM_timeOf_13 : decode mM_timeOf.2.1 13 = .ok (.iload_n 1, 1) := by decide +kernel
theorem kM_timeOf_14 : decode mM_timeOf.2.1 14 = .ok (.iload_n 2, 1) := by decide +kernel
theorem kM_timeOf_15 : decode mM_timeOf.2.1 15 = .ok (.invokevirtual 108, 3) := by decide +kernel
theorem kM_timeOf_18 : decode mM_timeOf.2.1 18 = .ok (.ifCond .ge 7, 3) := by decide +kernel
theorem kM_timeOf_21 : decode mM_timeOf.2.1 21 = .ok (.iconst 2, 1) := by decide +kernel
theorem kM_timeOf_22 : decode mM_timeOf.2.1 22 = .ok (.goto 4, 3) := by decide +kernel
theorem kM_timeOf_25 : decode mM_timeOf.2.1 25 = .ok (.iconst 0, 1) := by decide +kernel
theorem kM_timeOf_26 : decode mM_timeOf.2.1 26 = .ok (.putfield 45, 3) := by decide +kernel
theorem kM_timeOf_29 : decode mM_timeOf.2.1 29 = .ok (.aload_n 0, 1) := by decide +kernel
theorem kM_timeOf_30 : decode mM_timeOf.2.1 30 = .ok (.getfield 45, 3) := by decide +kernel
theorem kM_timeOf_33 : decode mM_timeOf.2.1 33 = .ok (.ifCond .ne 17, 3) := by decide +kernel
theorem kM_timeOf_36 : decode mM_timeOf.2.1 36 = .ok (.aload_n 0, 1) := by decide +kernel
theorem kM_timeOf_37 : decode mM_timeOf.2.1 37 = .ok (.getfield 13, 3) := by decide +kernel
theorem kM_timeOf_40 : decode mM_timeOf.2.1 40 = .ok (.aload_n 0, 1) := by decide +kernel
theorem kM_timeOf_41 : decode mM_timeOf.2.1 41 = .ok (.iload_n 1, 1) := by decide +kernel
theorem kM_timeOf_42 : decode mM_timeOf.2.1 42 = .ok (.iload_n 2, 1) := by decide +kernel
theorem kM_timeOf_43 : decode mM_timeOf.2.1 43 = .ok (.invokevirtual 108, 3) := by decide +kernel
theorem kM_timeOf_46 : decode mM_timeOf.2.1 46 = .ok (.iaload, 1) := by decide +kernel
theorem kM_timeOf_47 : decode mM_timeOf.2.1 47 = .ok (.goto 4, 3) := by decide +kernel
theorem kM_timeOf_50 : decode mM_timeOf.2.1 50 = .ok (.iconst 0, 1) := by decide +kernel
theorem kM_timeOf_51 : decode mM_timeOf.2.1 51 = .ok (.ireturn, 1) := by decide +kernel
theorem kM_valueOf_0 : decode mM_valueOf.2.1 0 = .ok (.aload_n 0, 1) := by decide +kernel
theorem kM_valueOf_1 : decode mM_valueOf.2.1 1 = .ok (.iload_n 1, 1) := by decide +kernel
theorem kM_valueOf_2 : decode mM_valueOf.2.1 2 = .ok (.invokestatic 53, 3) := by decide +kernel
theorem kM_valueOf_5 : decode mM_valueOf.2.1 5 = .ok (.ifCond .ne 7, 3) := by decide +kernel
theorem kM_valueOf_8 : decode mM_valueOf.2.1 8 = .ok (.iconst 1, 1) := by decide +kernel
theorem kM_valueOf_9 : decode mM_valueOf.2.1 9 = .ok (.goto 17, 3) := by decide +kernel
theorem kM_valueOf_12 : decode mM_valueOf.2.1 12 = .ok (.aload_n 0, 1) := by decide +kernel
theorem kM_valueOf_13 : decode mM_valueOf.2.1 13 = .ok (.iload_n 1, 1) := by decide +kernel
theorem kM_valueOf_14 : decode mM_valueOf.2.1 14 = .ok (.iload_n 2, 1) := by decide +kernel
theorem kM_valueOf_15 : decode mM_valueOf.2.1 15 = .ok (.invokevirtual 108, 3) := by decide +kernel
theorem kM_valueOf_18 : decode mM_valueOf.2.1 18 = .ok (.ifCond .ge 7, 3) := by decide +kernel
theorem kM_valueOf_21 : decode mM_valueOf.2.1 21 = .ok (.iconst 2, 1) := by decide +kernel
theorem kM_valueOf_22 : decode mM_valueOf.2.1 22 = .ok (.goto 4, 3) := by decide +kernel
theorem kM_valueOf_25 : decode mM_valueOf.2.1 25 = .ok (.iconst 0, 1) := by decide +kernel
theorem kM_valueOf_26 : decode mM_valueOf.2.1 26 = .ok (.putfield 45, 3) := by decide +kernel
theorem kM_valueOf_29 : decode mM_valueOf.2.1 29 = .ok (.aload_n 0, 1) := by decide +kernel
theorem kM_valueOf_30 : decode mM_valueOf.2.1 30 = .ok (.getfield 45, 3) := by decide +kernel
theorem kM_valueOf_33 : decode mM_valueOf.2.1 33 = .ok (.ifCond .eq 5, 3) := by decide +kernel
theorem kM_valueOf_36 : decode mM_valueOf.2.1 36 = .ok (.lconst 0, 1) := by decide +kernel
theorem kM_valueOf_37 : decode mM_valueOf.2.1 37 = .ok (.lreturn, 1) := by decide +kernel
theorem kM_valueOf_38 : decode mM_valueOf.2.1 38 = .ok (.aload_n 0, 1) := by decide +kernel
theorem kM_valueOf_39 : decode mM_valueOf.2.1 39 = .ok (.iload_n 1, 1) := by decide +kernel
theorem kM_valueOf_40 : decode mM_valueOf.2.1 40 = .ok (.iload_n 2, 1) := by decide +kernel
theorem kM_valueOf_41 : decode mM_valueOf.2.1 41 = .ok (.invokevirtual 108, 3) := by decide +kernel
theorem kM_valueOf_44 : decode mM_valueOf.2.1 44 = .ok (.istore_n 3, 1) := by decide +kernel
theorem kM_valueOf_45 : decode mM_valueOf.2.1 45 = .ok (.aload_n 0, 1) := by decide +kernel
theorem kM_valueOf_46 : decode mM_valueOf.2.1 46 = .ok (.aload_n 0, 1) := by decide +kernel
theorem kM_valueOf_47 : decode mM_valueOf.2.1 47 = .ok (.getfield 20, 3) := by decide +kernel
theorem kM_valueOf_50 : decode mM_valueOf.2.1 50 = .ok (.iload_n 3, 1) := by decide +kernel
theorem kM_valueOf_51 : decode mM_valueOf.2.1 51 = .ok (.baload, 1) := by decide +kernel
theorem kM_valueOf_52 : decode mM_valueOf.2.1 52 = .ok (.ifCond .eq 7, 3) := by decide +kernel
theorem kM_valueOf_55 : decode mM_valueOf.2.1 55 = .ok (.iconst 2, 1) := by decide +kernel
theorem kM_valueOf_56 : decode mM_valueOf.2.1 56 = .ok (.goto 4, 3) := by decide +kernel
theorem kM_valueOf_59 : decode mM_valueOf.2.1 59 = .ok (.iconst 0, 1) := by decide +kernel
theorem kM_valueOf_60 : decode mM_valueOf.2.1 60 = .ok (.putfield 45, 3) := by decide +kernel
theorem kM_valueOf_63 : decode mM_valueOf.2.1 63 = .ok (.aload_n 0, 1) := by decide +kernel
theorem kM_valueOf_64 : decode mM_valueOf.2.1 64 = .ok (.getfield 45, 3) := by decide +kernel
theorem kM_valueOf_67 : decode mM_valueOf.2.1 67 = .ok (.ifCond .ne 12, 3) := by decide +kernel
theorem kM_valueOf_70 : decode mM_valueOf.2.1 70 = .ok (.aload_n 0, 1) := by decide +kernel
theorem kM_valueOf_71 : decode mM_valueOf.2.1 71 = .ok (.getfield 16, 3) := by decide +kernel
theorem kM_valueOf_74 : decode mM_valueOf.2.1 74 = .ok (.iload_n 3, 1) := by decide +kernel
theorem kM_valueOf_75 : decode mM_valueOf.2.1 75 = .ok (.laload, 1) := by decide +kernel
theorem kM_valueOf_76 : decode mM_valueOf.2.1 76 = .ok (.goto 4, 3) := by decide +kernel
theorem kM_valueOf_79 : decode mM_valueOf.2.1 79 = .ok (.lconst 0, 1) := by decide +kernel
theorem kM_valueOf_80 : decode mM_valueOf.2.1 80 = .ok (.lreturn, 1) := by decide +kernel
