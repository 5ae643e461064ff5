theorem dX7_step_119 : decode cX7_step 119 = .ok (.iconst 2, 1) := by decide +kernel
theorem dX7_step_120 : decode cX7_step 120 = .ok (.iload_n 2, 1) := by decide +kernel
theorem dX7_step_121 : decode cX7_step 121 = .ok (.iconst 0, 1) := by decide +kernel
theorem dX7_step_122 : decode cX7_step 122 = .ok (.invokevirtual 122, 3) := by decide +kernel
theorem dX7_step_125 : decode cX7_step 125 = .ok (.goto 129, 3) := by decide +kernel
theorem dX7_step_128 : decode cX7_step 128 = .ok (.aload_n 0, 1) := by decide +kernel
theorem dX7_step_129 : decode cX7_step 129 = .ok (.getfield 69, 3) := by decide +kernel
theorem dX7_step_132 : decode cX7_step 132 = .ok (.iload_n 1, 1) := by decide +kernel
theorem dX7_step_133 : decode cX7_step 133 = .ok (.iaload, 1) := by decide +kernel
theorem dX7_step_134 : decode cX7_step 134 = .ok (.iconst 3, 1) := by decide +kernel
theorem dX7_step_135 : decode cX7_step 135 = .ok (.if_icmp .ne 12, 3) := by decide +kernel
theorem dX7_step_138 : decode cX7_step 138 = .ok (.aload_n 0, 1) := by decide +kernel
theorem dX7_step_139 : decode cX7_step 139 = .ok (.iload_n 2, 1) := by decide +kernel
theorem dX7_step_140 : decode cX7_step 140 = .ok (.iconst 0, 1) := by decide +kernel
theorem dX7_step_141 : decode cX7_step 141 = .ok (.invokevirtual 136, 3) := by decide +kernel
theorem dX7_step_144 : decode cX7_step 144 = .ok (.goto 110, 3) := by decide +kernel
theorem dX7_step_147 : decode cX7_step 147 = .ok (.aload_n 0, 1) := by decide +kernel
theorem dX7_step_148 : decode cX7_step 148 = .ok (.getfield 69, 3) := by decide +kernel
theorem dX7_step_151 : decode cX7_step 151 = .ok (.iload_n 1, 1) := by decide +kernel
theorem dX7_step_152 : decode cX7_step 152 = .ok (.iaload, 1) := by decide +kernel
theorem dX7_step_153 : decode cX7_step 153 = .ok (.iconst 4, 1) := by decide +kernel
theorem dX7_step_154 : decode cX7_step 154 = .ok (.if_icmp .ne 100, 3) := by decide +kernel
theorem dX7_step_157 : decode cX7_step 157 = .ok (.aload_n 0, 1) := by decide +kernel
theorem dX7_step_158 : decode cX7_step 158 = .ok (.getfield 44, 3) := by decide +kernel
theorem dX7_step_161 : decode cX7_step 161 = .ok (.iload_n 2, 1) := by decide +kernel
theorem dX7_step_162 : decode cX7_step 162 = .ok (.iconst 2, 1) := by decide +kernel
theorem dX7_step_163 : decode cX7_step 163 = .ok (.iastore, 1) := by decide +kernel
theorem dX7_step_164 : decode cX7_step 164 = .ok (.aload_n 0, 1) := by decide +kernel
theorem dX7_step_165 : decode cX7_step 165 = .ok (.iconst 1, 1) := by decide +kernel
theorem dX7_step_166 : decode cX7_step 166 = .ok (.iload_n 2, 1) := by decide +kernel
theorem dX7_step_167 : decode cX7_step 167 = .ok (.invokevirtual 118, 3) := by decide +kernel
theorem dX7_step_170 : decode cX7_step 170 = .ok (.aload_n 0, 1) := by decide +kernel
theorem dX7_step_171 : decode cX7_step 171 = .ok (.dup, 1) := by decide +kernel
theorem dX7_step_172 : decode cX7_step 172 = .ok (.getfield 108, 3) := by decide +kernel
theorem dX7_step_175 : decode cX7_step 175 = .ok (.iconst 1, 1) := by decide +kernel
theorem dX7_step_176 : decode cX7_step 176 = .ok (.isub, 1) := by decide +kernel
theorem dX7_step_177 : decode cX7_step 177 = .ok (.putfield 108, 3) := by decide +kernel
theorem dX7_step_180 : decode cX7_step 180 = .ok (.goto 74, 3) := by decide +kernel
theorem dX7_step_183 : decode cX7_step 183 = .ok (.aload_n 0, 1) := by decide +kernel
theorem dX7_step_184 : decode cX7_step 184 = .ok (.iload_n 1, 1) := by decide +kernel
theorem dX7_step_185 : decode cX7_step 185 = .ok (.iload_n 2, 1) := by decide +kernel
theorem dX7_step_186 : decode cX7_step 186 = .ok (.invokevirtual 139, 3) := by decide +kernel
theorem dX7_step_189 : decode cX7_step 189 = .ok (.goto 65, 3) := by decide +kernel
theorem dX7_step_192 : decode cX7_step 192 = .ok (.aload_n 0, 1) := by decide +kernel
theorem dX7_step_193 : decode cX7_step 193 = .ok (.getfield 69, 3) := by decide +kernel
theorem dX7_step_196 : decode cX7_step 196 = .ok (.iload_n 1, 1) := by decide +kernel
theorem dX7_step_197 : decode cX7_step 197 = .ok (.dup2, 1) := by decide +kernel
theorem dX7_step_198 : decode cX7_step 198 = .ok (.iaload, 1) := by decide +kernel
theorem dX7_step_199 : decode cX7_step 199 = .ok (.iconst 1, 1) := by decide +kernel
theorem dX7_step_200 : decode cX7_step 200 = .ok (.iadd, 1) := by decide +kernel
theorem dX7_step_201 : decode cX7_step 201 = .ok (.iastore, 1) := by decide +kernel
theorem dX7_step_202 : decode cX7_step 202 = .ok (.aload_n 0, 1) := by decide +kernel
theorem dX7_step_203 : decode cX7_step 203 = .ok (.getfield 69, 3) := by decide +kernel
theorem dX7_step_206 : decode cX7_step 206 = .ok (.iload_n 1, 1) := by decide +kernel
theorem dX7_step_207 : decode cX7_step 207 = .ok (.iaload, 1) := by decide +kernel
theorem dX7_step_208 : decode cX7_step 208 = .ok (.iconst 1, 1) := by decide +kernel
theorem dX7_step_209 : decode cX7_step 209 = .ok (.if_icmp .ne 11, 3) := by decide +kernel
theorem dX7_step_212 : decode cX7_step 212 = .ok (.aload_n 0, 1) := by decide +kernel
theorem dX7_step_213 : decode cX7_step 213 = .ok (.iload_n 2, 1) := by decide +kernel
theorem dX7_step_214 : decode cX7_step 214 = .ok (.invokevirtual 133, 3) := by decide +kernel
theorem dX7_step_217 : decode cX7_step 217 = .ok (.goto 37, 3) := by decide +kernel
theorem dX7_step_220 : decode cX7_step 220 = .ok (.aload_n 0, 1) := by decide +kernel
theorem dX7_step_221 : decode cX7_step 221 = .ok (.getfield 69, 3) := by decide +kernel
theorem dX7_step_224 : decode cX7_step 224 = .ok (.iload_n 1, 1) := by decide +kernel
theorem dX7_step_225 : decode cX7_step 225 = .ok (.iaload, 1) := by decide +kernel
theorem dX7_step_226 : decode cX7_step 226 = .ok (.iconst 2, 1) := by decide +kernel
theorem dX7_step_227 : decode cX7_step 227 = .ok (.if_icmp .ne 17, 3) := by decide +kernel
theorem dX7_step_230 : decode cX7_step 230 = .ok (.aload_n 0, 1) := by decide +kernel
theorem dX7_step_231 : decode cX7_step 231 = .ok (.iload_n 2, 1) := by decide +kernel
theorem dX7_step_232 : decode cX7_step 232 = .ok (.aload_n 0, 1) := by decide +kernel
theorem dX7_step_233 : decode cX7_step 233 = .ok (.getfield 63, 3) := by decide +kernel
theorem dX7_step_236 : decode cX7_step 236 = .ok (.iload_n 1, 1) := by decide +kernel
theorem dX7_step_237 : decode cX7_step 237 = .ok (.iaload, 1) := by decide +kernel
theorem dX7_step_238 : decode cX7_step 238 = .ok (.invokevirtual 136, 3) := by decide +kernel
theorem dX7_step_241 : decode cX7_step 241 = .ok (.goto 13, 3) := by decide +kernel
theorem dX7_step_244 : decode cX7_step 244 = .ok (.aload_n 0, 1) := by decide +kernel
theorem dX7_step_245 : decode cX7_step 245 = .ok (.dup, 1) := by decide +kernel
theorem dX7_step_246 : decode cX7_step 246 = .ok (.getfield 108, 3) := by decide +kernel
theorem dX7_step_249 : decode cX7_step 249 = .ok (.iconst 1, 1) := by decide +kernel
theorem dX7_step_250 : decode cX7_step 250 = .ok (.isub, 1) := by decide +kernel
theorem dX7_step_251 : decode cX7_step 251 = .ok (.putfield 108, 3) := by decide +kernel
theorem dX7_step_254 : decode cX7_step 254 = .ok (.return_, 1) := by decide +kernel
theorem dX7_look_0 : decode cX7_look 0 = .ok (.aload_n 0, 1) := by decide +kernel
theorem dX7_look_1 : decode cX7_look 1 = .ok (.getfield 63, 3) := by decide +kernel
theorem dX7_look_4 : decode cX7_look 4 = .ok (.iload_n 1, 1) := by decide +kernel
theorem dX7_look_5 : decode cX7_look 5 = .ok (.iaload, 1) := by decide +kernel
theorem dX7_look_6 : decode cX7_look 6 = .ok (.aload_n 0, 1) := by decide +kernel
theorem dX7_look_7 : decode cX7_look 7 = .ok (.getfield 20, 3) := by decide +kernel
theorem dX7_look_10 : decode cX7_look 10 = .ok (.iload_n 2, 1) := by decide +kernel
theorem dX7_look_11 : decode cX7_look 11 = .ok (.iaload, 1) := by decide +kernel
theorem dX7_look_12 : decode cX7_look 12 = .ok (.if_icmp .ne 14, 3) := by decide +kernel
theorem dX7_look_15 : decode cX7_look 15 = .ok (.aload_n 0, 1) := by decide +kernel
theorem dX7_look_16 : decode cX7_look 16 = .ok (.dup, 1) := by decide +kernel
theorem dX7_look_17 : decode cX7_look 17 = .ok (.getfield 108, 3) := by decide +kernel
theorem dX7_look_20 : decode cX7_look 20 = .ok (.iconst 1, 1) := by decide +kernel
theorem dX7_look_21 : decode cX7_look 21 = .ok (.isub, 1) := by decide +kernel
theorem dX7_look_22 : decode cX7_look 22 = .ok (.putfield 108, 3) := by decide +kernel
theorem dX7_look_25 : decode cX7_look 25 = .ok (.return_, 1) := by decide +kernel
theorem dX7_look_26 : decode cX7_look 26 = .ok (.aload_n 0, 1) := by decide +kernel
theorem dX7_look_27 : decode cX7_look 27 = .ok (.getfield 23, 3) := by decide +kernel
theorem dX7_look_30 : decode cX7_look 30 = .ok (.iconst 3, 1) := by decide +kernel
theorem dX7_look_31 : decode cX7_look 31 = .ok (.iload_n 2, 1) := by decide +kernel
theorem dX7_look_32 : decode cX7_look 32 = .ok (.imul, 1) := by decide +kernel
theorem dX7_look_33 : decode cX7_look 33 = .ok (.aload_n 0, 1) := by decide +kernel
theorem dX7_look_34 : decode cX7_look 34 = .ok (.getfield 63, 3) := by decide +kernel
theorem dX7_look_37 : decode cX7_look 37 = .ok (.iload_n 1, 1) := by decide +kernel
theorem dX7_look_38 : decode cX7_look 38 = .ok (.iaload, 1) := by decide +kernel
theorem dX7_look_39 : decode cX7_look 39 = .ok (.iadd, 1) := by decide +kernel
theorem dX7_look_40 : decode cX7_look 40 = .ok (.iaload, 1) := by decide +kernel
theorem dX7_look_41 : decode cX7_look 41 = .ok (.istore_n 3, 1) := by decide +kernel
theorem dX7_look_42 : decode cX7_look 42 = .ok (.aload_n 0, 1) := by decide +kernel
theorem dX7_look_43 : decode cX7_look 43 = .ok (.getfield 69, 3) := by decide +kernel
theorem dX7_look_46 : decode cX7_look 46 = .ok (.iload_n 1, 1) := by decide +kernel
theorem dX7_look_47 : decode cX7_look 47 = .ok (.dup2, 1) := by decide +kernel
theorem dX7_look_48 : decode cX7_look 48 = .ok (.iaload, 1) := by decide +kernel
theorem dX7_look_49 : decode cX7_look 49 = .ok (.iconst 1, 1) := by decide +kernel
theorem dX7_look_50 : decode cX7_look 50 = .ok (.iadd, 1) := by decide +kernel
theorem dX7_look_51 : decode cX7_look 51 = .ok (.iastore, 1) := by decide +kernel
theorem dX7_look_52 : decode cX7_look 52 = .ok (.aload_n 0, 1) := by decide +kernel
theorem dX7_look_53 : decode cX7_look 53 = .ok (.getfield 69, 3) := by decide +kernel
theorem dX7_look_56 : decode cX7_look 56 = .ok (.iload_n 1, 1) := by decide +kernel
theorem dX7_look_57 : decode cX7_look 57 = .ok (.iaload, 1) := by decide +kernel
theorem dX7_look_58 : decode cX7_look 58 = .ok (.iconst 1, 1) := by decide +kernel
theorem dX7_look_59 : decode cX7_look 59 = .ok (.if_icmp .ne 13, 3) := by decide +kernel
theorem dX7_look_62 : decode cX7_look 62 = .ok (.aload_n 0, 1) := by decide +kernel
theorem dX7_look_63 : decode cX7_look 63 = .ok (.iconst 2, 1) := by decide +kernel
theorem dX7_look_64 : decode cX7_look 64 = .ok (.iload_n 3, 1) := by decide +kernel
theorem dX7_look_65 : decode cX7_look 65 = .ok (.iconst 0, 1) := by decide +kernel
theorem dX7_look_66 : decode cX7_look 66 = .ok (.invokevirtual 122, 3) := by decide +kernel
theorem dX7_look_69 : decode cX7_look 69 = .ok (.goto 34, 3) := by decide +kernel
theorem dX7_look_72 : decode cX7_look 72 = .ok (.aload_n 0, 1) := by decide +kernel
theorem dX7_look_73 : decode cX7_look 73 = .ok (.getfield 69, 3) := by decide +kernel
theorem dX7_look_76 : decode cX7_look 76 = .ok (.iload_n 1, 1) := by decide +kernel
theorem dX7_look_77 : decode cX7_look 77 = .ok (.iconst 0, 1) := by decide +kernel
theorem dX7_look_78 : decode cX7_look 78 = .ok (.iastore, 1) := by decide +kernel
theorem dX7_look_79 : decode cX7_look 79 = .ok (.aload_n 0, 1) := by decide +kernel
theorem dX7_look_80 : decode cX7_look 80 = .ok (.getfield 63, 3) := by decide +kernel
theorem dX7_look_83 : decode cX7_look 83 = .ok (.iload_n 1, 1) := by decide +kernel
theorem dX7_look_84 : decode cX7_look 84 = .ok (.dup2, 1) := by decide +kernel
theorem dX7_look_85 : decode cX7_look 85 = .ok (.iaload, 1) := by decide +kernel
theorem dX7_look_86 : decode cX7_look 86 = .ok (.iconst 1, 1) := by decide +kernel
theorem dX7_look_87 : decode cX7_look 87 = .ok (.iadd, 1) := by decide +kernel
theorem dX7_look_88 : decode cX7_look 88 = .ok (.iastore, 1) := by decide +kernel
theorem dX7_look_89 : decode cX7_look 89 = .ok (.aload_n 0, 1) := by decide +kernel
theorem dX7_look_90 : decode cX7_look 90 = .ok (.getfield 13, 3) := by decide +kernel
theorem dX7_look_93 : decode cX7_look 93 = .ok (.iload_n 3, 1) := by decide +kernel
theorem dX7_look_94 : decode cX7_look 94 = .ok (.baload, 1) := by decide +kernel
theorem dX7_look_95 : decode cX7_look 95 = .ok (.ifCond .eq 8, 3) := by decide +kernel
theorem dX7_look_98 : decode cX7_look 98 = .ok (.aload_n 0, 1) := by decide +kernel
theorem dX7_look_99 : decode cX7_look 99 = .ok (.iload_n 3, 1) := by decide +kernel
theorem dX7_look_100 : decode cX7_look 100 = .ok (.invokevirtual 133, 3) := by decide +kernel
theorem dX7_look_103 : decode cX7_look 103 = .ok (.return_, 1) := by decide +kernel
theorem dX7_fly_0 : decode cX7_fly 0 = .ok (.aload_n 0, 1) := by decide +kernel
theorem dX7_fly_1 : decode cX7_fly 1 = .ok (.getfield 108, 3) := by decide +kernel
theorem dX7_fly_4 : decode cX7_fly 4 = .ok (.iconst 1, 1) := by decide +kernel
theorem dX7_fly_5 : decode cX7_fly 5 = .ok (.isub, 1) := by decide +kernel
theorem dX7_fly_6 : decode cX7_fly 6 = .ok (.istore_n 1, 1) := by decide +kernel
theorem dX7_fly_7 : decode cX7_fly 7 = .ok (.aload_n 0, 1) := by decide +kernel
theorem dX7_fly_8 : decode cX7_fly 8 = .ok (.getfield 60, 3) := by decide +kernel
theorem dX7_fly_11 : decode cX7_fly 11 = .ok (.iload_n 1, 1) := by decide +kernel
theorem dX7_fly_12 : decode cX7_fly 12 = .ok (.iaload, 1) := by decide +kernel
theorem dX7_fly_13 : decode cX7_fly 13 = .ok (.istore_n 2, 1) := by decide +kernel
theorem dX7_fly_14 : decode cX7_fly 14 = .ok (.aload_n 0, 1) := by decide +kernel
theorem dX7_fly_15 : decode cX7_fly 15 = .ok (.getfield 57, 3) := by decide +kernel
theorem dX7_fly_18 : decode cX7_fly 18 = .ok (.iload_n 1, 1) := by decide +kernel
theorem dX7_fly_19 : decode cX7_fly 19 = .ok (.iaload, 1) := by decide +kernel
theorem dX7_fly_20 : decode cX7_fly 20 = .ok (.ifCond .ne 107, 3) := by decide +kernel
theorem dX7_fly_23 : decode cX7_fly 23 = .ok (.aload_n 0, 1) := by decide +kernel
theorem dX7_fly_24 : decode cX7_fly 24 = .ok (.getfield 72, 3) := by decide +kernel
theorem dX7_fly_27 : decode cX7_fly 27 = .ok (.iload_n 1, 1) := by decide +kernel
theorem dX7_fly_28 : decode cX7_fly 28 = .ok (.iaload, 1) := by decide +kernel
theorem dX7_fly_29 : decode cX7_fly 29 = .ok (.ifCond .le 85, 3) := by decide +kernel
theorem dX7_fly_32 : decode cX7_fly 32 = .ok (.aload_n 0, 1) := by decide +kernel
theorem dX7_fly_33 : decode cX7_fly 33 = .ok (.getfield 72, 3) := by decide +kernel
theorem dX7_fly_36 : decode cX7_fly 36 = .ok (.iload_n 1, 1) := by decide +kernel
theorem dX7_fly_37 : decode cX7_fly 37 = .ok (.dup2, 1) := by decide +kernel
theorem dX7_fly_38 : decode cX7_fly 38 = .ok (.iaload, 1) := by decide +kernel
theorem dX7_fly_39 : decode cX7_fly 39 = .ok (.iconst 1, 1) := by decide +kernel
theorem dX7_fly_40 : decode cX7_fly 40 = .ok (.isub, 1) := by decide +kernel
theorem dX7_fly_41 : decode cX7_fly 41 = .ok (.iastore, 1) := by decide +kernel
theorem dX7_fly_42 : decode cX7_fly 42 = .ok (.bipush 10, 2) := by decide +kernel
theorem dX7_fly_44 : decode cX7_fly 44 = .ok (.iload_n 1, 1) := by decide +kernel
theorem dX7_fly_45 : decode cX7_fly 45 = .ok (.imul, 1) := by decide +kernel
theorem dX7_fly_46 : decode cX7_fly 46 = .ok (.aload_n 0, 1) := by decide +kernel
theorem dX7_fly_47 : decode cX7_fly 47 = .ok (.getfield 72, 3) := by decide +kernel
theorem dX7_fly_50 : decode cX7_fly 50 = .ok (.iload_n 1, 1) := by decide +kernel
theorem dX7_fly_51 : decode cX7_fly 51 = .ok (.iaload, 1) := by decide +kernel
theorem dX7_fly_52 : decode cX7_fly 52 = .ok (.iadd, 1) := by decide +kernel
theorem dX7_fly_53 : decode cX7_fly 53 = .ok (.istore_n 3, 1) := by decide +kernel
theorem dX7_fly_54 : decode cX7_fly 54 = .ok (.aload_n 0, 1) := by decide +kernel
theorem dX7_fly_55 : decode cX7_fly 55 = .ok (.getfield 115, 3) := by decide +kernel
theorem dX7_fly_58 : decode cX7_fly 58 = .ok (.bipush 10, 2) := by decide +kernel
theorem dX7_fly_60 : decode cX7_fly 60 = .ok (.if_icmp .eq 51, 3) := by decide +kernel
theorem dX7_fly_63 : decode cX7_fly 63 = .ok (.aload_n 0, 1) := by decide +kernel
theorem dX7_fly_64 : decode cX7_fly 64 = .ok (.getfield 78, 3) := by decide +kernel
theorem dX7_fly_67 : decode cX7_fly 67 = .ok (.iload_n 3, 1) := by decide +kernel
theorem dX7_fly_68 : decode cX7_fly 68 = .ok (.iaload, 1) := by decide +kernel
theorem dX7_fly_69 : decode cX7_fly 69 = .ok (.iconst (-1), 1) := by decide +kernel
theorem dX7_fly_70 : decode cX7_fly 70 = .ok (.if_icmp .eq 16, 3) := by decide +kernel
theorem dX7_fly_73 : decode cX7_fly 73 = .ok (.aload_n 0, 1) := by decide +kernel
theorem dX7_fly_74 : decode cX7_fly 74 = .ok (.getfield 78, 3) := by decide +kernel
theorem dX7_fly_77 : decode cX7_fly 77 = .ok (.iload_n 3, 1) := by decide +kernel
theorem dX7_fly_78 : decode cX7_fly 78 = .ok (.iaload, 1) := by decide +kernel
theorem dX7_fly_79 : decode cX7_fly 79 = .ok (.aload_n 0, 1) := by decide +kernel
theorem dX7_fly_80 : decode cX7_fly 80 = .ok (.getfield 115, 3) := by decide +kernel
theorem dX7_fly_83 : decode cX7_fly 83 = .ok (.if_icmp .ne 28, 3) := by decide +kernel
theorem dX7_fly_86 : decode cX7_fly 86 = .ok (.aload_n 0, 1) := by decide +kernel
theorem dX7_fly_87 : decode cX7_fly 87 = .ok (.iconst (-1), 1) := by decide +kernel
theorem dX7_fly_88 : decode cX7_fly 88 = .ok (.putfield 115, 3) := by decide +kernel
theorem dX7_fly_91 : decode cX7_fly 91 = .ok (.aload_n 0, 1) := by decide +kernel
theorem dX7_fly_92 : decode cX7_fly 92 = .ok (.getfield 66, 3) := by decide +kernel
theorem dX7_fly_95 : decode cX7_fly 95 = .ok (.iload_n 1, 1) := by decide +kernel
theorem dX7_fly_96 : decode cX7_fly 96 = .ok (.aload_n 0, 1) := by decide +kernel
theorem dX7_fly_97 : decode cX7_fly 97 = .ok (.getfield 75, 3) := by decide +kernel
theorem dX7_fly_100 : decode cX7_fly 100 = .ok (.iload_n 3, 1) := by decide +kernel
theorem dX7_fly_101 : decode cX7_fly 101 = .ok (.iaload, 1) := by decide +kernel
theorem dX7_fly_102 : decode cX7_fly 102 = .ok (.iastore, 1) := by decide +kernel
theorem dX7_fly_103 : decode cX7_fly 103 = .ok (.aload_n 0, 1) := by decide +kernel
theorem dX7_fly_104 : decode cX7_fly 104 = .ok (.getfield 69, 3) := by decide +kernel
theorem dX7_fly_107 : decode cX7_fly 107 = .ok (.iload_n 1, 1) := by decide +kernel
theorem dX7_fly_108 : decode cX7_fly 108 = .ok (.iconst 0, 1) := by decide +kernel
theorem dX7_fly_109 : decode cX7_fly 109 = .ok (.iastore, 1) := by decide +kernel
theorem dX7_fly_110 : decode cX7_fly 110 = .ok (.return_, 1) := by decide +kernel
theorem dX7_fly_111 : decode cX7_fly 111 = .ok (.goto (-88), 3) := by decide +kernel
theorem dX7_fly_114 : decode cX7_fly 114 = .ok (.aload_n 0, 1) := by decide +kernel
theorem dX7_fly_115 : decode cX7_fly 115 = .ok (.dup, 1) := by decide +kernel
theorem dX7_fly_116 : decode cX7_fly 116 = .ok (.getfield 126, 3) := by decide +kernel
theorem dX7_fly_119 : decode cX7_fly 119 = .ok (.iconst 1, 1) := by decide +kernel
theorem dX7_fly_120 : decode cX7_fly 120 = .ok (.isub, 1) := by decide +kernel
theorem dX7_fly_121 : decode cX7_fly 121 = .ok (.putfield 126, 3) := by decide +kernel
theorem dX7_fly_124 : decode cX7_fly 124 = .ok (.goto 53, 3) := by decide +kernel
theorem dX7_fly_127 : decode cX7_fly 127 = .ok (.aload_n 0, 1) := by decide +kernel
theorem dX7_fly_128 : decode cX7_fly 128 = .ok (.getfield 57, 3) := by decide +kernel
theorem dX7_fly_131 : decode cX7_fly 131 = .ok (.iload_n 1, 1) := by decide +kernel
theorem dX7_fly_132 : decode cX7_fly 132 = .ok (.iaload, 1) := by decide +kernel
theorem dX7_fly_133 : decode cX7_fly 133 = .ok (.iconst 1, 1) := by decide +kernel
theorem dX7_fly_134 : decode cX7_fly 134 = .ok (.if_icmp .ne 43, 3) := by decide +kernel
theorem dX7_fly_137 : decode cX7_fly 137 = .ok (.aload_n 0, 1) := by decide +kernel
theorem dX7_fly_138 : decode cX7_fly 138 = .ok (.getfield 44, 3) := by decide +kernel
theorem dX7_fly_141 : decode cX7_fly 141 = .ok (.iload_n 2, 1) := by decide +kernel
theorem dX7_fly_142 : decode cX7_fly 142 = .ok (.iconst 3, 1) := by decide +kernel
theorem dX7_fly_143 : decode cX7_fly 143 = .ok (.iastore, 1) := by decide +kernel
theorem dX7_fly_144 : decode cX7_fly 144 = .ok (.aload_n 0, 1) := by decide +kernel
theorem dX7_fly_145 : decode cX7_fly 145 = .ok (.iconst 2, 1) := by decide +kernel
theorem dX7_fly_146 : decode cX7_fly 146 = .ok (.iload_n 2, 1) := by decide +kernel
theorem dX7_fly_147 : decode cX7_fly 147 = .ok (.invokevirtual 118, 3) := by decide +kernel
theorem dX7_fly_150 : decode cX7_fly 150 = .ok (.aload_n 0, 1) := by decide +kernel
theorem dX7_fly_151 : decode cX7_fly 151 = .ok (.getfield 115, 3) := by decide +kernel
theorem dX7_fly_154 : decode cX7_fly 154 = .ok (.bipush 6, 2) := by decide +kernel
theorem dX7_fly_156 : decode cX7_fly 156 = .ok (.if_icmp .gt 21, 3) := by decide +kernel
theorem dX7_fly_159 : decode cX7_fly 159 = .ok (.aload_n 0, 1) := by decide +kernel
theorem dX7_fly_160 : decode cX7_fly 160 = .ok (.aload_n 0, 1) := by decide +kernel
theorem dX7_fly_161 : decode cX7_fly 161 = .ok (.getfield 115, 3) := by decide +kernel
theorem dX7_fly_164 : decode cX7_fly 164 = .ok (.putfield 142, 3) := by decide +kernel
theorem dX7_fly_167 : decode cX7_fly 167 = .ok (.aload_n 0, 1) := by decide +kernel
theorem dX7_fly_168 : decode cX7_fly 168 = .ok (.aload_n 0, 1) := by decide +kernel
theorem dX7_fly_169 : decode cX7_fly 169 = .ok (.bipush 7, 2) := by decide +kernel
theorem dX7_fly_171 : decode cX7_fly 171 = .ok (.invokevirtual 111, 3) := by decide +kernel
theorem dX7_fly_174 : decode cX7_fly 174 = .ok (.putfield 115, 3) := by decide +kernel
theorem dX7_fly_177 : decode cX7_fly 177 = .ok (.aload_n 0, 1) := by decide +kernel
theorem dX7_fly_178 : decode cX7_fly 178 = .ok (.dup, 1) := by decide +kernel
theorem dX7_fly_179 : decode cX7_fly 179 = .ok (.getfield 108, 3) := by decide +kernel
theorem dX7_fly_182 : decode cX7_fly 182 = .ok (.iconst 1, 1) := by decide +kernel
theorem dX7_fly_183 : decode cX7_fly 183 = .ok (.isub, 1) := by decide +kernel
theorem dX7_fly_184 : decode cX7_fly 184 = .ok (.putfield 108, 3) := by decide +kernel
theorem dX7_fly_187 : decode cX7_fly 187 = .ok (.return_, 1) := by decide +kernel
theorem dX7_goOn_0 : decode cX7_goOn 0 = .ok (.iconst 4, 1) := by decide +kernel
theorem dX7_goOn_1 : decode cX7_goOn 1 = .ok (.aload_n 0, 1) := by decide +kernel
theorem dX7_goOn_2 : decode cX7_goOn 2 = .ok (.getfield 60, 3) := by decide +kernel
theorem dX7_goOn_5 : decode cX7_goOn 5 = .ok (.iload_n 1, 1) := by decide +kernel
theorem dX7_goOn_6 : decode cX7_goOn 6 = .ok (.iaload, 1) := by decide +kernel
theorem dX7_goOn_7 : decode cX7_goOn 7 = .ok (.imul, 1) := by decide +kernel
theorem dX7_goOn_8 : decode cX7_goOn 8 = .ok (.aload_n 0, 1) := by decide +kernel
theorem dX7_goOn_9 : decode cX7_goOn 9 = .ok (.getfield 63, 3) := by decide +kernel
theorem dX7_goOn_12 : decode cX7_goOn 12 = .ok (.iload_n 1, 1) := by decide +kernel
theorem dX7_goOn_13 : decode cX7_goOn 13 = .ok (.iaload, 1) := by decide +kernel
theorem dX7_goOn_14 : decode cX7_goOn 14 = .ok (.iadd, 1) := by decide +kernel
theorem dX7_goOn_15 : decode cX7_goOn 15 = .ok (.istore_n 2, 1) := by decide +kernel
theorem dX7_goOn_16 : decode cX7_goOn 16 = .ok (.aload_n 0, 1) := by decide +kernel
theorem dX7_goOn_17 : decode cX7_goOn 17 = .ok (.getfield 72, 3) := by decide +kernel
theorem dX7_goOn_20 : decode cX7_goOn 20 = .ok (.iload_n 1, 1) := by decide +kernel
theorem dX7_goOn_21 : decode cX7_goOn 21 = .ok (.iaload, 1) := by decide +kernel
theorem dX7_goOn_22 : decode cX7_goOn 22 = .ok (.ifCond .le 43, 3) := by decide +kernel
theorem dX7_goOn_25 : decode cX7_goOn 25 = .ok (.aload_n 0, 1) := by decide +kernel
theorem dX7_goOn_26 : decode cX7_goOn 26 = .ok (.getfield 75, 3) := by decide +kernel
theorem dX7_goOn_29 : decode cX7_goOn 29 = .ok (.bipush 10, 2) := by decide +kernel
theorem dX7_goOn_31 : decode cX7_goOn 31 = .ok (.iload_n 1, 1) := by decide +kernel
theorem dX7_goOn_32 : decode cX7_goOn 32 = .ok (.imul, 1) := by decide +kernel
theorem dX7_goOn_33 : decode cX7_goOn 33 = .ok (.aload_n 0, 1) := by decide +kernel
theorem dX7_goOn_34 : decode cX7_goOn 34 = .ok (.getfield 72, 3) := by decide +kernel
theorem dX7_goOn_37 : decode cX7_goOn 37 = .ok (.iload_n 1, 1) := by decide +kernel
theorem dX7_goOn_38 : decode cX7_goOn 38 = .ok (.iaload, 1) := by decide +kernel
theorem dX7_goOn_39 : decode cX7_goOn 39 = .ok (.iadd, 1) := by decide +kernel
theorem dX7_goOn_40 : decode cX7_goOn 40 = .ok (.iconst 1, 1) := by decide +kernel
theorem dX7_goOn_41 : decode cX7_goOn 41 = .ok (.isub, 1) := by decide +kernel
theorem dX7_goOn_42 : decode cX7_goOn 42 = .ok (.iaload, 1) := by decide +kernel
theorem dX7_goOn_43 : decode cX7_goOn 43 = .ok (.aload_n 0, 1) := by decide +kernel
theorem dX7_goOn_44 : decode cX7_goOn 44 = .ok (.getfield 66, 3) := by decide +kernel
theorem dX7_goOn_47 : decode cX7_goOn 47 = .ok (.iload_n 1, 1) := by decide +kernel
theorem dX7_goOn_48 : decode cX7_goOn 48 = .ok (.iaload, 1) := by decide +kernel
theorem dX7_goOn_49 : decode cX7_goOn 49 = .ok (.if_icmp .gt 16, 3) := by decide +kernel
theorem dX7_goOn_52 : decode cX7_goOn 52 = .ok (.aload_n 0, 1) := by decide +kernel
theorem dX7_goOn_53 : decode cX7_goOn 53 = .ok (.getfield 72, 3) := by decide +kernel
theorem dX7_goOn_56 : decode cX7_goOn 56 = .ok (.iload_n 1, 1) := by decide +kernel
theorem dX7_goOn_57 : decode cX7_goOn 57 = .ok (.dup2, 1) := by decide +kernel
theorem dX7_goOn_58 : decode cX7_goOn 58 = .ok (.iaload, 1) := by decide +kernel
theorem dX7_goOn_59 : decode cX7_goOn 59 = .ok (.iconst 1, 1) := by decide +kernel
theorem dX7_goOn_60 : decode cX7_goOn 60 = .ok (.isub, 1) := by decide +kernel
theorem dX7_goOn_61 : decode cX7_goOn 61 = .ok (.iastore, 1) := by decide +kernel
theorem dX7_goOn_62 : decode cX7_goOn 62 = .ok (.goto (-46), 3) := by decide +kernel
theorem dX7_goOn_65 : decode cX7_goOn 65 = .ok (.aload_n 0, 1) := by decide +kernel
theorem dX7_goOn_66 : decode cX7_goOn 66 = .ok (.getfield 66, 3) := by decide +kernel
theorem dX7_goOn_69 : decode cX7_goOn 69 = .ok (.iload_n 1, 1) := by decide +kernel
theorem dX7_goOn_70 : decode cX7_goOn 70 = .ok (.iaload, 1) := by decide +kernel
theorem dX7_goOn_71 : decode cX7_goOn 71 = .ok (.aload_n 0, 1) := by decide +kernel
theorem dX7_goOn_72 : decode cX7_goOn 72 = .ok (.getfield 38, 3) := by decide +kernel
theorem dX7_goOn_75 : decode cX7_goOn 75 = .ok (.iload_n 2, 1) := by decide +kernel
theorem dX7_goOn_76 : decode cX7_goOn 76 = .ok (.iaload, 1) := by decide +kernel
theorem dX7_goOn_77 : decode cX7_goOn 77 = .ok (.if_icmp .ne 24, 3) := by decide +kernel
theorem dX7_goOn_80 : decode cX7_goOn 80 = .ok (.aload_n 0, 1) := by decide +kernel
theorem dX7_goOn_81 : decode cX7_goOn 81 = .ok (.dup, 1) := by decide +kernel
theorem dX7_goOn_82 : decode cX7_goOn 82 = .ok (.getfield 126, 3) := by decide +kernel
theorem dX7_goOn_85 : decode cX7_goOn 85 = .ok (.iconst 1, 1) := by decide +kernel
theorem dX7_goOn_86 : decode cX7_goOn 86 = .ok (.isub, 1) := by decide +kernel
theorem dX7_goOn_87 : decode cX7_goOn 87 = .ok (.putfield 126, 3) := by decide +kernel
theorem dX7_goOn_90 : decode cX7_goOn 90 = .ok (.aload_n 0, 1) := by decide +kernel
theorem dX7_goOn_91 : decode cX7_goOn 91 = .ok (.dup, 1) := by decide +kernel
theorem dX7_goOn_92 : decode cX7_goOn 92 = .ok (.getfield 108, 3) := by decide +kernel
theorem dX7_goOn_95 : decode cX7_goOn 95 = .ok (.iconst 1, 1) := by decide +kernel
theorem dX7_goOn_96 : decode cX7_goOn 96 = .ok (.isub, 1) := by decide +kernel
theorem dX7_goOn_97 : decode cX7_goOn 97 = .ok (.putfield 108, 3) := by decide +kernel
theorem dX7_goOn_100 : decode cX7_goOn 100 = .ok (.return_, 1) := by decide +kernel
theorem dX7_goOn_101 : decode cX7_goOn 101 = .ok (.bipush 40, 2) := by decide +kernel
theorem dX7_goOn_103 : decode cX7_goOn 103 = .ok (.iload_n 2, 1) := by decide +kernel
theorem dX7_goOn_104 : decode cX7_goOn 104 = .ok (.imul, 1) := by decide +kernel
theorem dX7_goOn_105 : decode cX7_goOn 105 = .ok (.iconst 4, 1) := by decide +kernel
theorem dX7_goOn_106 : decode cX7_goOn 106 = .ok (.aload_n 0, 1) := by decide +kernel
theorem dX7_goOn_107 : decode cX7_goOn 107 = .ok (.getfield 66, 3) := by decide +kernel
theorem dX7_goOn_110 : decode cX7_goOn 110 = .ok (.iload_n 1, 1) := by decide +kernel
theorem dX7_goOn_111 : decode cX7_goOn 111 = .ok (.iaload, 1) := by decide +kernel
theorem dX7_goOn_112 : decode cX7_goOn 112 = .ok (.imul, 1) := by decide +kernel
theorem dX7_goOn_113 : decode cX7_goOn 113 = .ok (.iadd, 1) := by decide +kernel
theorem dX7_goOn_114 : decode cX7_goOn 114 = .ok (.istore_n 3, 1) := by decide +kernel
theorem dX7_goOn_115 : decode cX7_goOn 115 = .ok (.aload_n 0, 1) := by decide +kernel
theorem dX7_goOn_116 : decode cX7_goOn 116 = .ok (.getfield 69, 3) := by decide +kernel
theorem dX7_goOn_119 : decode cX7_goOn 119 = .ok (.iload_n 1, 1) := by decide +kernel
theorem dX7_goOn_120 : decode cX7_goOn 120 = .ok (.iaload, 1) := by decide +kernel
theorem dX7_goOn_121 : decode cX7_goOn 121 = .ok (.ifCond .ne 89, 3) := by decide +kernel
theorem dX7_goOn_124 : decode cX7_goOn 124 = .ok (.aload_n 0, 1) := by decide +kernel
theorem dX7_goOn_125 : decode cX7_goOn 125 = .ok (.getfield 145, 3) := by decide +kernel
theorem dX7_goOn_128 : decode cX7_goOn 128 = .ok (.bipush 80, 2) := by decide +kernel
theorem dX7_goOn_130 : decode cX7_goOn 130 = .ok (.if_icmp .ne 14, 3) := by decide +kernel
theorem dX7_goOn_133 : decode cX7_goOn 133 = .ok (.aload_n 0, 1) := by decide +kernel
theorem dX7_goOn_134 : decode cX7_goOn 134 = .ok (.aload_n 0, 1) := by decide +kernel
theorem dX7_goOn_135 : decode cX7_goOn 135 = .ok (.bipush 10, 2) := by decide +kernel
theorem dX7_goOn_137 : decode cX7_goOn 137 = .ok (.invokevirtual 111, 3) := by decide +kernel
theorem dX7_goOn_140 : decode cX7_goOn 140 = .ok (.putfield 115, 3) := by decide +kernel
theorem dX7_goOn_143 : decode cX7_goOn 143 = .ok (.return_, 1) := by decide +kernel
theorem dX7_goOn_144 : decode cX7_goOn 144 = .ok (.aload_n 0, 1) := by decide +kernel
theorem dX7_goOn_145 : decode cX7_goOn 145 = .ok (.dup, 1) := by decide +kernel
theorem dX7_goOn_146 : decode cX7_goOn 146 = .ok (.getfield 145, 3) := by decide +kernel
theorem dX7_goOn_149 : decode cX7_goOn 149 = .ok (.iconst 1, 1) := by decide +kernel
theorem dX7_goOn_150 : decode cX7_goOn 150 = .ok (.iadd, 1) := by decide +kernel
theorem dX7_goOn_151 : decode cX7_goOn 151 = .ok (.putfield 145, 3) := by decide +kernel
theorem dX7_goOn_154 : decode cX7_goOn 154 = .ok (.aload_n 0, 1) := by decide +kernel
theorem dX7_goOn_155 : decode cX7_goOn 155 = .ok (.aload_n 0, 1) := by decide +kernel
theorem dX7_goOn_156 : decode cX7_goOn 156 = .ok (.getfield 41, 3) := by decide +kernel
theorem dX7_goOn_159 : decode cX7_goOn 159 = .ok (.iload_n 3, 1) := by decide +kernel
theorem dX7_goOn_160 : decode cX7_goOn 160 = .ok (.iaload, 1) := by decide +kernel
theorem dX7_goOn_161 : decode cX7_goOn 161 = .ok (.aload_n 0, 1) := by decide +kernel
theorem dX7_goOn_162 : decode cX7_goOn 162 = .ok (.getfield 41, 3) := by decide +kernel
theorem dX7_goOn_165 : decode cX7_goOn 165 = .ok (.iload_n 3, 1) := by decide +kernel
theorem dX7_goOn_166 : decode cX7_goOn 166 = .ok (.iconst 1, 1) := by decide +kernel
theorem dX7_goOn_167 : decode cX7_goOn 167 = .ok (.iadd, 1) := by decide +kernel
theorem dX7_goOn_168 : decode cX7_goOn 168 = .ok (.iaload, 1) := by decide +kernel
theorem dX7_goOn_169 : decode cX7_goOn 169 = .ok (.aload_n 0, 1) := by decide +kernel
theorem dX7_goOn_170 : decode cX7_goOn 170 = .ok (.getfield 41, 3) := by decide +kernel
theorem dX7_goOn_173 : decode cX7_goOn 173 = .ok (.iload_n 3, 1) := by decide +kernel
theorem dX7_goOn_174 : decode cX7_goOn 174 = .ok (.iconst 2, 1) := by decide +kernel
theorem dX7_goOn_175 : decode cX7_goOn 175 = .ok (.iadd, 1) := by decide +kernel
theorem dX7_goOn_176 : decode cX7_goOn 176 = .ok (.iaload, 1) := by decide +kernel
theorem dX7_goOn_177 : decode cX7_goOn 177 = .ok (.aload_n 0, 1) := by decide +kernel
theorem dX7_goOn_178 : decode cX7_goOn 178 = .ok (.getfield 41, 3) := by decide +kernel
theorem dX7_goOn_181 : decode cX7_goOn 181 = .ok (.iload_n 3, 1) := by decide +kernel
theorem dX7_goOn_182 : decode cX7_goOn 182 = .ok (.iconst 3, 1) := by decide +kernel
theorem dX7_goOn_183 : decode cX7_goOn 183 = .ok (.iadd, 1) := by decide +kernel
theorem dX7_goOn_184 : decode cX7_goOn 184 = .ok (.iaload, 1) := by decide +kernel
theorem dX7_goOn_185 : decode cX7_goOn 185 = .ok (.invokevirtual 148, 3) := by decide +kernel
theorem dX7_goOn_188 : decode cX7_goOn 188 = .ok (.istore 4, 2) := by decide +kernel
theorem dX7_goOn_190 : decode cX7_goOn 190 = .ok (.aload_n 0, 1) := by decide +kernel
theorem dX7_goOn_191 : decode cX7_goOn 191 = .ok (.getfield 69, 3) := by decide +kernel
theorem dX7_goOn_194 : decode cX7_goOn 194 = .ok (.iload_n 1, 1) := by decide +kernel
theorem dX7_goOn_195 : decode cX7_goOn 195 = .ok (.iconst 1, 1) := by decide +kernel
theorem dX7_goOn_196 : decode cX7_goOn 196 = .ok (.iastore, 1) := by decide +kernel
theorem dX7_goOn_197 : decode cX7_goOn 197 = .ok (.iload 4, 2) := by decide +kernel
theorem dX7_goOn_199 : decode cX7_goOn 199 = .ok (.iconst (-1), 1) := by decide +kernel
theorem dX7_goOn_200 : decode cX7_goOn 200 = .ok (.if_icmp .eq 10, 3) := by decide +kernel
theorem dX7_goOn_203 : decode cX7_goOn 203 = .ok (.aload_n 0, 1) := by decide +kernel
theorem dX7_goOn_204 : decode cX7_goOn 204 = .ok (.iload 4, 2) := by decide +kernel
theorem dX7_goOn_206 : decode cX7_goOn 206 = .ok (.invokevirtual 133, 3) := by decide +kernel
theorem dX7_goOn_209 : decode cX7_goOn 209 = .ok (.return_, 1) := by decide +kernel
theorem dX7_goOn_210 : decode cX7_goOn 210 = .ok (.aload_n 0, 1) := by decide +kernel
theorem dX7_goOn_211 : decode cX7_goOn 211 = .ok (.getfield 69, 3) := by decide +kernel
theorem dX7_goOn_214 : decode cX7_goOn 214 = .ok (.iload_n 1, 1) := by decide +kernel
theorem dX7_goOn_215 : decode cX7_goOn 215 = .ok (.iconst 0, 1) := by decide +kernel
theorem dX7_goOn_216 : decode cX7_goOn 216 = .ok (.iastore, 1) := by decide +kernel
theorem dX7_goOn_217 : decode cX7_goOn 217 = .ok (.aload_n 0, 1) := by decide +kernel
theorem dX7_goOn_218 : decode cX7_goOn 218 = .ok (.getfield 66, 3) := by decide +kernel
theorem dX7_goOn_221 : decode cX7_goOn 221 = .ok (.iload_n 1, 1) := by decide +kernel
theorem dX7_goOn_222 : decode cX7_goOn 222 = .ok (.dup2, 1) := by decide +kernel
theorem dX7_goOn_223 : decode cX7_goOn 223 = .ok (.iaload, 1) := by decide +kernel
theorem dX7_goOn_224 : decode cX7_goOn 224 = .ok (.iconst 1, 1) := by decide +kernel
theorem dX7_goOn_225 : decode cX7_goOn 225 = .ok (.iadd, 1) := by decide +kernel
theorem dX7_goOn_226 : decode cX7_goOn 226 = .ok (.iastore, 1) := by decide +kernel
theorem dX7_goOn_227 : decode cX7_goOn 227 = .ok (.aload_n 0, 1) := by decide +kernel
theorem dX7_goOn_228 : decode cX7_goOn 228 = .ok (.getfield 41, 3) := by decide +kernel
theorem dX7_goOn_231 : decode cX7_goOn 231 = .ok (.iload_n 3, 1) := by decide +kernel
theorem dX7_goOn_232 : decode cX7_goOn 232 = .ok (.iaload, 1) := by decide +kernel
theorem dX7_goOn_233 : decode cX7_goOn 233 = .ok (.bipush 11, 2) := by decide +kernel
theorem dX7_goOn_235 : decode cX7_goOn 235 = .ok (.if_icmp .ne 125, 3) := by decide +kernel
theorem dX7_goOn_238 : decode cX7_goOn 238 = .ok (.aload_n 0, 1) := by decide +kernel
theorem dX7_goOn_239 : decode cX7_goOn 239 = .ok (.getfield 72, 3) := by decide +kernel
theorem dX7_goOn_242 : decode cX7_goOn 242 = .ok (.iload_n 1, 1) := by decide +kernel
theorem dX7_goOn_243 : decode cX7_goOn 243 = .ok (.iaload, 1) := by decide +kernel
theorem dX7_goOn_244 : decode cX7_goOn 244 = .ok (.ifCond .le 24, 3) := by decide +kernel
theorem dX7_goOn_247 : decode cX7_goOn 247 = .ok (.aload_n 0, 1) := by decide +kernel
theorem dX7_goOn_248 : decode cX7_goOn 248 = .ok (.getfield 75, 3) := by decide +kernel
theorem dX7_goOn_251 : decode cX7_goOn 251 = .ok (.bipush 10, 2) := by decide +kernel
theorem dX7_goOn_253 : decode cX7_goOn 253 = .ok (.iload_n 1, 1) := by decide +kernel
theorem dX7_goOn_254 : decode cX7_goOn 254 = .ok (.imul, 1) := by decide +kernel
theorem dX7_goOn_255 : decode cX7_goOn 255 = .ok (.aload_n 0, 1) := by decide +kernel
theorem dX7_goOn_256 : decode cX7_goOn 256 = .ok (.getfield 72, 3) := by decide +kernel
theorem dX7_goOn_259 : decode cX7_goOn 259 = .ok (.iload_n 1, 1) := by decide +kernel
theorem dX7_goOn_260 : decode cX7_goOn 260 = .ok (.iaload, 1) := by decide +kernel
theorem dX7_goOn_261 : decode cX7_goOn 261 = .ok (.iadd, 1) := by decide +kernel
theorem dX7_goOn_262 : decode cX7_goOn 262 = .ok (.iconst 1, 1) := by decide +kernel
theorem dX7_goOn_263 : decode cX7_goOn 263 = .ok (.isub, 1) := by decide +kernel
theorem dX7_goOn_264 : decode cX7_goOn 264 = .ok (.iaload, 1) := by decide +kernel
theorem dX7_goOn_265 : decode cX7_goOn 265 = .ok (.goto 9, 3) := by decide +kernel
theorem dX7_goOn_268 : decode cX7_goOn 268 = .ok (.aload_n 0, 1) := by decide +kernel
theorem dX7_goOn_269 : decode cX7_goOn 269 = .ok (.getfield 38, 3) := by decide +kernel
theorem dX7_goOn_272 : decode cX7_goOn 272 = .ok (.iload_n 2, 1) := by decide +kernel
theorem dX7_goOn_273 : decode cX7_goOn 273 = .ok (.iaload, 1) := by decide +kernel
theorem dX7_goOn_274 : decode cX7_goOn 274 = .ok (.istore 4, 2) := by decide +kernel
theorem dX7_goOn_276 : decode cX7_goOn 276 = .ok (.aload_n 0, 1) := by decide +kernel
theorem dX7_goOn_277 : decode cX7_goOn 277 = .ok (.getfield 66, 3) := by decide +kernel
theorem dX7_goOn_280 : decode cX7_goOn 280 = .ok (.iload_n 1, 1) := by decide +kernel
theorem dX7_goOn_281 : decode cX7_goOn 281 = .ok (.iaload, 1) := by decide +kernel
theorem dX7_goOn_282 : decode cX7_goOn 282 = .ok (.aload_n 0, 1) := by decide +kernel
theorem dX7_goOn_283 : decode cX7_goOn 283 = .ok (.getfield 41, 3) := by decide +kernel
theorem dX7_goOn_286 : decode cX7_goOn 286 = .ok (.iload_n 3, 1) := by decide +kernel
theorem dX7_goOn_287 : decode cX7_goOn 287 = .ok (.iconst 1, 1) := by decide +kernel
theorem dX7_goOn_288 : decode cX7_goOn 288 = .ok (.iadd, 1) := by decide +kernel
theorem dX7_goOn_289 : decode cX7_goOn 289 = .ok (.iaload, 1) := by decide +kernel
theorem dX7_goOn_290 : decode cX7_goOn 290 = .ok (.iadd, 1) := by decide +kernel
theorem dX7_goOn_291 : decode cX7_goOn 291 = .ok (.istore 5, 2) := by decide +kernel
theorem dX7_goOn_293 : decode cX7_goOn 293 = .ok (.aload_n 0, 1) := by decide +kernel
theorem dX7_goOn_294 : decode cX7_goOn 294 = .ok (.getfield 75, 3) := by decide +kernel
theorem dX7_goOn_297 : decode cX7_goOn 297 = .ok (.bipush 10, 2) := by decide +kernel
theorem dX7_goOn_299 : decode cX7_goOn 299 = .ok (.iload_n 1, 1) := by decide +kernel
theorem dX7_goOn_300 : decode cX7_goOn 300 = .ok (.imul, 1) := by decide +kernel
theorem dX7_goOn_301 : decode cX7_goOn 301 = .ok (.aload_n 0, 1) := by decide +kernel
theorem dX7_goOn_302 : decode cX7_goOn 302 = .ok (.getfield 72, 3) := by decide +kernel
theorem dX7_goOn_305 : decode cX7_goOn 305 = .ok (.iload_n 1, 1) := by decide +kernel
theorem dX7_goOn_306 : decode cX7_goOn 306 = .ok (.iaload, 1) := by decide +kernel
theorem dX7_goOn_307 : decode cX7_goOn 307 = .ok (.iadd, 1) := by decide +kernel
theorem dX7_goOn_308 : decode cX7_goOn 308 = .ok (.iload 5, 2) := by decide +kernel
theorem dX7_goOn_310 : decode cX7_goOn 310 = .ok (.iload 4, 2) := by decide +kernel
theorem dX7_goOn_312 : decode cX7_goOn 312 = .ok (.if_icmp .ge 8, 3) := by decide +kernel
theorem dX7_goOn_315 : decode cX7_goOn 315 = .ok (.iload 5, 2) := by decide +kernel
theorem dX7_goOn_317 : decode cX7_goOn 317 = .ok (.goto 5, 3) := by decide +kernel
theorem dX7_goOn_320 : decode cX7_goOn 320 = .ok (.iload 4, 2) := by decide +kernel
theorem dX7_goOn_322 : decode cX7_goOn 322 = .ok (.iastore, 1) := by decide +kernel
theorem dX7_goOn_323 : decode cX7_goOn 323 = .ok (.aload_n 0, 1) := by decide +kernel
theorem dX7_goOn_324 : decode cX7_goOn 324 = .ok (.getfield 78, 3) := by decide +kernel
theorem dX7_goOn_327 : decode cX7_goOn 327 = .ok (.bipush 10, 2) := by decide +kernel
theorem dX7_goOn_329 : decode cX7_goOn 329 = .ok (.iload_n 1, 1) := by decide +kernel
theorem dX7_goOn_330 : decode cX7_goOn 330 = .ok (.imul, 1) := by decide +kernel
theorem dX7_goOn_331 : decode cX7_goOn 331 = .ok (.aload_n 0, 1) := by decide +kernel
theorem dX7_goOn_332 : decode cX7_goOn 332 = .ok (.getfield 72, 3) := by decide +kernel
theorem dX7_goOn_335 : decode cX7_goOn 335 = .ok (.iload_n 1, 1) := by decide +kernel
theorem dX7_goOn_336 : decode cX7_goOn 336 = .ok (.iaload, 1) := by decide +kernel
theorem dX7_goOn_337 : decode cX7_goOn 337 = .ok (.iadd, 1) := by decide +kernel
theorem dX7_goOn_338 : decode cX7_goOn 338 = .ok (.aload_n 0, 1) := by decide +kernel
theorem dX7_goOn_339 : decode cX7_goOn 339 = .ok (.getfield 41, 3) := by decide +kernel
theorem dX7_goOn_342 : decode cX7_goOn 342 = .ok (.iload_n 3, 1) := by decide +kernel
theorem dX7_goOn_343 : decode cX7_goOn 343 = .ok (.iconst 2, 1) := by decide +kernel
theorem dX7_goOn_344 : decode cX7_goOn 344 = .ok (.iadd, 1) := by decide +kernel
theorem dX7_goOn_345 : decode cX7_goOn 345 = .ok (.iaload, 1) := by decide +kernel
theorem dX7_goOn_346 : decode cX7_goOn 346 = .ok (.iastore, 1) := by decide +kernel
theorem dX7_goOn_347 : decode cX7_goOn 347 = .ok (.aload_n 0, 1) := by decide +kernel
theorem dX7_goOn_348 : decode cX7_goOn 348 = .ok (.getfield 72, 3) := by decide +kernel
theorem dX7_goOn_351 : decode cX7_goOn 351 = .ok (.iload_n 1, 1) := by decide +kernel
theorem dX7_goOn_352 : decode cX7_goOn 352 = .ok (.dup2, 1) := by decide +kernel
theorem dX7_goOn_353 : decode cX7_goOn 353 = .ok (.iaload, 1) := by decide +kernel
theorem dX7_goOn_354 : decode cX7_goOn 354 = .ok (.iconst 1, 1) := by decide +kernel
theorem dX7_goOn_355 : decode cX7_goOn 355 = .ok (.iadd, 1) := by decide +kernel
theorem dX7_goOn_356 : decode cX7_goOn 356 = .ok (.iastore, 1) := by decide +kernel
theorem dX7_goOn_357 : decode cX7_goOn 357 = .ok (.goto 115, 3) := by decide +kernel
theorem dX7_goOn_360 : decode cX7_goOn 360 = .ok (.aload_n 0, 1) := by decide +kernel
theorem dX7_goOn_361 : decode cX7_goOn 361 = .ok (.getfield 41, 3) := by decide +kernel
theorem dX7_goOn_364 : decode cX7_goOn 364 = .ok (.iload_n 3, 1) := by decide +kernel
theorem dX7_goOn_365 : decode cX7_goOn 365 = .ok (.iaload, 1) := by decide +kernel
theorem dX7_goOn_366 : decode cX7_goOn 366 = .ok (.bipush 7, 2) := by decide +kernel
theorem dX7_goOn_368 : decode cX7_goOn 368 = .ok (.if_icmp .ne 60, 3) := by decide +kernel
theorem dX7_goOn_371 : decode cX7_goOn 371 = .ok (.aload_n 0, 1) := by decide +kernel
theorem dX7_goOn_372 : decode cX7_goOn 372 = .ok (.getfield 126, 3) := by decide +kernel
theorem dX7_goOn_375 : decode cX7_goOn 375 = .ok (.bipush 8, 2) := by decide +kernel
theorem dX7_goOn_377 : decode cX7_goOn 377 = .ok (.if_icmp .ge 28, 3) := by decide +kernel
theorem dX7_goOn_380 : decode cX7_goOn 380 = .ok (.aload_n 0, 1) := by decide +kernel
theorem dX7_goOn_381 : decode cX7_goOn 381 = .ok (.iconst 4, 1) := by decide +kernel
theorem dX7_goOn_382 : decode cX7_goOn 382 = .ok (.bipush 10, 2) := by decide +kernel
theorem dX7_goOn_384 : decode cX7_goOn 384 = .ok (.aload_n 0, 1) := by decide +kernel
theorem dX7_goOn_385 : decode cX7_goOn 385 = .ok (.getfield 41, 3) := by decide +kernel
theorem dX7_goOn_388 : decode cX7_goOn 388 = .ok (.iload_n 3, 1) := by decide +kernel
theorem dX7_goOn_389 : decode cX7_goOn 389 = .ok (.iconst 1, 1) := by decide +kernel
theorem dX7_goOn_390 : decode cX7_goOn 390 = .ok (.iadd, 1) := by decide +kernel
theorem dX7_goOn_391 : decode cX7_goOn 391 = .ok (.iaload, 1) := by decide +kernel
theorem dX7_goOn_392 : decode cX7_goOn 392 = .ok (.imul, 1) := by decide +kernel
theorem dX7_goOn_393 : decode cX7_goOn 393 = .ok (.aload_n 0, 1) := by decide +kernel
theorem dX7_goOn_394 : decode cX7_goOn 394 = .ok (.getfield 41, 3) := by decide +kernel
theorem dX7_goOn_397 : decode cX7_goOn 397 = .ok (.iload_n 3, 1) := by decide +kernel
theorem dX7_goOn_398 : decode cX7_goOn 398 = .ok (.iconst 2, 1) := by decide +kernel
theorem dX7_goOn_399 : decode cX7_goOn 399 = .ok (.iadd, 1) := by decide +kernel
theorem dX7_goOn_400 : decode cX7_goOn 400 = .ok (.iaload, 1) := by decide +kernel
theorem dX7_goOn_401 : decode cX7_goOn 401 = .ok (.iadd, 1) := by decide +kernel
theorem dX7_goOn_402 : decode cX7_goOn 402 = .ok (.invokevirtual 118, 3) := by decide +kernel
theorem dX7_goOn_405 : decode cX7_goOn 405 = .ok (.aload_n 0, 1) := by decide +kernel
theorem dX7_goOn_406 : decode cX7_goOn 406 = .ok (.aload_n 0, 1) := by decide +kernel
theorem dX7_goOn_407 : decode cX7_goOn 407 = .ok (.getfield 41, 3) := by decide +kernel
theorem dX7_goOn_410 : decode cX7_goOn 410 = .ok (.iload_n 3, 1) := by decide +kernel
theorem dX7_goOn_411 : decode cX7_goOn 411 = .ok (.iconst 1, 1) := by decide +kernel
theorem dX7_goOn_412 : decode cX7_goOn 412 = .ok (.iadd, 1) := by decide +kernel
theorem dX7_goOn_413 : decode cX7_goOn 413 = .ok (.iaload, 1) := by decide +kernel
theorem dX7_goOn_414 : decode cX7_goOn 414 = .ok (.aload_n 0, 1) := by decide +kernel
theorem dX7_goOn_415 : decode cX7_goOn 415 = .ok (.getfield 41, 3) := by decide +kernel
theorem dX7_goOn_418 : decode cX7_goOn 418 = .ok (.iload_n 3, 1) := by decide +kernel
theorem dX7_goOn_419 : decode cX7_goOn 419 = .ok (.iconst 2, 1) := by decide +kernel
theorem dX7_goOn_420 : decode cX7_goOn 420 = .ok (.iadd, 1) := by decide +kernel
theorem dX7_goOn_421 : decode cX7_goOn 421 = .ok (.iaload, 1) := by decide +kernel
theorem dX7_goOn_422 : decode cX7_goOn 422 = .ok (.invokevirtual 136, 3) := by decide +kernel
theorem dX7_goOn_425 : decode cX7_goOn 425 = .ok (.goto 47, 3) := by decide +kernel
theorem dX7_goOn_428 : decode cX7_goOn 428 = .ok (.aload_n 0, 1) := by decide +kernel
theorem dX7_goOn_429 : decode cX7_goOn 429 = .ok (.aload_n 0, 1) := by decide +kernel
theorem dX7_goOn_430 : decode cX7_goOn 430 = .ok (.aload_n 0, 1) := by decide +kernel
theorem dX7_goOn_431 : decode cX7_goOn 431 = .ok (.getfield 60, 3) := by decide +kernel
theorem dX7_goOn_434 : decode cX7_goOn 434 = .ok (.iload_n 1, 1) := by decide +kernel
theorem dX7_goOn_435 : decode cX7_goOn 435 = .ok (.iaload, 1) := by decide +kernel
theorem dX7_goOn_436 : decode cX7_goOn 436 = .ok (.aload_n 0, 1) := by decide +kernel
theorem dX7_goOn_437 : decode cX7_goOn 437 = .ok (.getfield 41, 3) := by decide +kernel
theorem dX7_goOn_440 : decode cX7_goOn 440 = .ok (.iload_n 3, 1) := by decide +kernel
theorem dX7_goOn_441 : decode cX7_goOn 441 = .ok (.iaload, 1) := by decide +kernel
theorem dX7_goOn_442 : decode cX7_goOn 442 = .ok (.aload_n 0, 1) := by decide +kernel
theorem dX7_goOn_443 : decode cX7_goOn 443 = .ok (.getfield 41, 3) := by decide +kernel
theorem dX7_goOn_446 : decode cX7_goOn 446 = .ok (.iload_n 3, 1) := by decide +kernel
theorem dX7_goOn_447 : decode cX7_goOn 447 = .ok (.iconst 1, 1) := by decide +kernel
theorem dX7_goOn_448 : decode cX7_goOn 448 = .ok (.iadd, 1) := by decide +kernel
theorem dX7_goOn_449 : decode cX7_goOn 449 = .ok (.iaload, 1) := by decide +kernel
theorem dX7_goOn_450 : decode cX7_goOn 450 = .ok (.aload_n 0, 1) := by decide +kernel
theorem dX7_goOn_451 : decode cX7_goOn 451 = .ok (.getfield 41, 3) := by decide +kernel
theorem dX7_goOn_454 : decode cX7_goOn 454 = .ok (.iload_n 3, 1) := by decide +kernel
theorem dX7_goOn_455 : decode cX7_goOn 455 = .ok (.iconst 2, 1) := by decide +kernel
theorem dX7_goOn_456 : decode cX7_goOn 456 = .ok (.iadd, 1) := by decide +kernel
theorem dX7_goOn_457 : decode cX7_goOn 457 = .ok (.iaload, 1) := by decide +kernel
theorem dX7_goOn_458 : decode cX7_goOn 458 = .ok (.aload_n 0, 1) := by decide +kernel
theorem dX7_goOn_459 : decode cX7_goOn 459 = .ok (.getfield 41, 3) := by decide +kernel
theorem dX7_goOn_462 : decode cX7_goOn 462 = .ok (.iload_n 3, 1) := by decide +kernel
theorem dX7_goOn_463 : decode cX7_goOn 463 = .ok (.iconst 3, 1) := by decide +kernel
theorem dX7_goOn_464 : decode cX7_goOn 464 = .ok (.iadd, 1) := by decide +kernel
theorem dX7_goOn_465 : decode cX7_goOn 465 = .ok (.iaload, 1) := by decide +kernel
theorem dX7_goOn_466 : decode cX7_goOn 466 = .ok (.invokevirtual 152, 3) := by decide +kernel
theorem dX7_goOn_469 : decode cX7_goOn 469 = .ok (.putfield 115, 3) := by decide +kernel
theorem dX7_goOn_472 : decode cX7_goOn 472 = .ok (.return_, 1) := by decide +kernel
theorem dX7_wants_0 : decode cX7_wants 0 = .ok (.iload_n 1, 1) := by decide +kernel
theorem dX7_wants_1 : decode cX7_wants 1 = .ok (.iconst 1, 1) := by decide +kernel
theorem dX7_wants_2 : decode cX7_wants 2 = .ok (.if_icmp .lt 28, 3) := by decide +kernel
theorem dX7_wants_5 : decode cX7_wants 5 = .ok (.iload_n 1, 1) := by decide +kernel
theorem dX7_wants_6 : decode cX7_wants 6 = .ok (.iconst 3, 1) := by decide +kernel
theorem dX7_wants_7 : decode cX7_wants 7 = .ok (.if_icmp .gt 23, 3) := by decide +kernel
theorem dX7_wants_10 : decode cX7_wants 10 = .ok (.aload_n 0, 1) := by decide +kernel
theorem dX7_wants_11 : decode cX7_wants 11 = .ok (.getfield 29, 3) := by decide +kernel
theorem dX7_wants_14 : decode cX7_wants 14 = .ok (.iconst 4, 1) := by decide +kernel
theorem dX7_wants_15 : decode cX7_wants 15 = .ok (.iload_n 3, 1) := by decide +kernel
theorem dX7_wants_16 : decode cX7_wants 16 = .ok (.imul, 1) := by decide +kernel
theorem dX7_wants_17 : decode cX7_wants 17 = .ok (.iload 4, 2) := by decide +kernel
theorem dX7_wants_19 : decode cX7_wants 19 = .ok (.iadd, 1) := by decide +kernel
theorem dX7_wants_20 : decode cX7_wants 20 = .ok (.baload, 1) := by decide +kernel
theorem dX7_wants_21 : decode cX7_wants 21 = .ok (.ifCond .eq 7, 3) := by decide +kernel
theorem dX7_wants_24 : decode cX7_wants 24 = .ok (.iconst (-1), 1) := by decide +kernel
theorem dX7_wants_25 : decode cX7_wants 25 = .ok (.goto 4, 3) := by decide +kernel
theorem dX7_wants_28 : decode cX7_wants 28 = .ok (.iload_n 3, 1) := by decide +kernel
theorem dX7_wants_29 : decode cX7_wants 29 = .ok (.ireturn, 1) := by decide +kernel
theorem dX7_wants_30 : decode cX7_wants 30 = .ok (.iload_n 1, 1) := by decide +kernel
theorem dX7_wants_31 : decode cX7_wants 31 = .ok (.bipush 7, 2) := by decide +kernel
theorem dX7_wants_33 : decode cX7_wants 33 = .ok (.if_icmp .eq 9, 3) := by decide +kernel
theorem dX7_wants_36 : decode cX7_wants 36 = .ok (.iload_n 1, 1) := by decide +kernel
theorem dX7_wants_37 : decode cX7_wants 37 = .ok (.bipush 8, 2) := by decide +kernel
theorem dX7_wants_39 : decode cX7_wants 39 = .ok (.if_icmp .ne 7, 3) := by decide +kernel
theorem dX7_wants_42 : decode cX7_wants 42 = .ok (.iload_n 2, 1) := by decide +kernel
theorem dX7_wants_43 : decode cX7_wants 43 = .ok (.goto 4, 3) := by decide +kernel
theorem dX7_wants_46 : decode cX7_wants 46 = .ok (.iconst (-1), 1) := by decide +kernel
theorem dX7_wants_47 : decode cX7_wants 47 = .ok (.ireturn, 1) := by decide +kernel
theorem dX7_set_0 : decode cX7_set 0 = .ok (.aload_n 0, 1) := by decide +kernel
theorem dX7_set_1 : decode cX7_set 1 = .ok (.getfield 29, 3) := by decide +kernel
theorem dX7_set_4 : decode cX7_set 4 = .ok (.iconst 4, 1) := by decide +kernel
theorem dX7_set_5 : decode cX7_set 5 = .ok (.iload_n 1, 1) := by decide +kernel
theorem dX7_set_6 : decode cX7_set 6 = .ok (.imul, 1) := by decide +kernel
theorem dX7_set_7 : decode cX7_set 7 = .ok (.iload_n 2, 1) := by decide +kernel
theorem dX7_set_8 : decode cX7_set 8 = .ok (.iadd, 1) := by decide +kernel
theorem dX7_set_9 : decode cX7_set 9 = .ok (.baload, 1) := by decide +kernel
theorem dX7_set_10 : decode cX7_set 10 = .ok (.ifCond .ne 14, 3) := by decide +kernel
theorem dX7_set_13 : decode cX7_set 13 = .ok (.aload_n 0, 1) := by decide +kernel
theorem dX7_set_14 : decode cX7_set 14 = .ok (.getfield 26, 3) := by decide +kernel
theorem dX7_set_17 : decode cX7_set 17 = .ok (.iconst 4, 1) := by decide +kernel
theorem dX7_set_18 : decode cX7_set 18 = .ok (.iload_n 1, 1) := by decide +kernel
theorem dX7_set_19 : decode cX7_set 19 = .ok (.imul, 1) := by decide +kernel
theorem dX7_set_20 : decode cX7_set 20 = .ok (.iload_n 2, 1) := by decide +kernel
theorem dX7_set_21 : decode cX7_set 21 = .ok (.iadd, 1) := by decide +kernel
theorem dX7_set_22 : decode cX7_set 22 = .ok (.iload_n 3, 1) := by decide +kernel
theorem dX7_set_23 : decode cX7_set 23 = .ok (.iastore, 1) := by decide +kernel
theorem dX7_set_24 : decode cX7_set 24 = .ok (.return_, 1) := by decide +kernel
theorem dX7_get_0 : decode cX7_get 0 = .ok (.aload_n 0, 1) := by decide +kernel
theorem dX7_get_1 : decode cX7_get 1 = .ok (.getfield 26, 3) := by decide +kernel
theorem dX7_get_4 : decode cX7_get 4 = .ok (.iconst 4, 1) := by decide +kernel
theorem dX7_get_5 : decode cX7_get 5 = .ok (.iload_n 1, 1) := by decide +kernel
theorem dX7_get_6 : decode cX7_get 6 = .ok (.imul, 1) := by decide +kernel
theorem dX7_get_7 : decode cX7_get 7 = .ok (.iload_n 2, 1) := by decide +kernel
theorem dX7_get_8 : decode cX7_get 8 = .ok (.iadd, 1) := by decide +kernel
theorem dX7_get_9 : decode cX7_get 9 = .ok (.iaload, 1) := by decide +kernel
theorem dX7_get_10 : decode cX7_get 10 = .ok (.ireturn, 1) := by decide +kernel
theorem dX7_doOne_0 : decode cX7_doOne 0 = .ok (.iload_n 2, 1) := by decide +kernel
theorem dX7_doOne_1 : decode cX7_doOne 1 = .ok (.tableswitch 128 0 10 #[59, 69, 69, 69, 81, 93, 93, 128, 112, 114, 120], 59) := by decide +kernel
theorem dX7_doOne_60 : decode cX7_doOne 60 = .ok (.aload_n 0, 1) := by decide +kernel
theorem dX7_doOne_61 : decode cX7_doOne 61 = .ok (.iload_n 1, 1) := by decide +kernel
theorem dX7_doOne_62 : decode cX7_doOne 62 = .ok (.iload_n 3, 1) := by decide +kernel
theorem dX7_doOne_63 : decode cX7_doOne 63 = .ok (.iload 4, 2) := by decide +kernel
theorem dX7_doOne_65 : decode cX7_doOne 65 = .ok (.invokevirtual 156, 3) := by decide +kernel
theorem dX7_doOne_68 : decode cX7_doOne 68 = .ok (.iconst (-1), 1) := by decide +kernel
theorem dX7_doOne_69 : decode cX7_doOne 69 = .ok (.ireturn, 1) := by decide +kernel
theorem dX7_doOne_70 : decode cX7_doOne 70 = .ok (.aload_n 0, 1) := by decide +kernel
theorem dX7_doOne_71 : decode cX7_doOne 71 = .ok (.iload_n 1, 1) := by decide +kernel
theorem dX7_doOne_72 : decode cX7_doOne 72 = .ok (.iload_n 2, 1) := by decide +kernel
theorem dX7_doOne_73 : decode cX7_doOne 73 = .ok (.iload_n 3, 1) := by decide +kernel
theorem dX7_doOne_74 : decode cX7_doOne 74 = .ok (.iload 4, 2) := by decide +kernel
theorem dX7_doOne_76 : decode cX7_doOne 76 = .ok (.iload 5, 2) := by decide +kernel
theorem dX7_doOne_78 : decode cX7_doOne 78 = .ok (.invokevirtual 159, 3) := by decide +kernel
theorem dX7_doOne_81 : decode cX7_doOne 81 = .ok (.ireturn, 1) := by decide +kernel
theorem dX7_doOne_82 : decode cX7_doOne 82 = .ok (.aload_n 0, 1) := by decide +kernel
theorem dX7_doOne_83 : decode cX7_doOne 83 = .ok (.iload_n 1, 1) := by decide +kernel
theorem dX7_doOne_84 : decode cX7_doOne 84 = .ok (.aload_n 0, 1) := by decide +kernel
theorem dX7_doOne_85 : decode cX7_doOne 85 = .ok (.iload_n 1, 1) := by decide +kernel
theorem dX7_doOne_86 : decode cX7_doOne 86 = .ok (.iload_n 3, 1) := by decide +kernel
theorem dX7_doOne_87 : decode cX7_doOne 87 = .ok (.invokevirtual 162, 3) := by decide +kernel
theorem dX7_doOne_90 : decode cX7_doOne 90 = .ok (.invokevirtual 166, 3) := by decide +kernel
theorem dX7_doOne_93 : decode cX7_doOne 93 = .ok (.ireturn, 1) := by decide +kernel
theorem dX7_doOne_94 : decode cX7_doOne 94 = .ok (.aload_n 0, 1) := by decide +kernel
theorem dX7_doOne_95 : decode cX7_doOne 95 = .ok (.iload_n 1, 1) := by decide +kernel
theorem dX7_doOne_96 : decode cX7_doOne 96 = .ok (.iload_n 2, 1) := by decide +kernel
theorem dX7_doOne_97 : decode cX7_doOne 97 = .ok (.iconst 5, 1) := by decide +kernel
theorem dX7_doOne_98 : decode cX7_doOne 98 = .ok (.if_icmp .ne 7, 3) := by decide +kernel
theorem dX7_doOne_101 : decode cX7_doOne 101 = .ok (.iconst 1, 1) := by decide +kernel
theorem dX7_doOne_102 : decode cX7_doOne 102 = .ok (.goto 4, 3) := by decide +kernel
theorem dX7_doOne_105 : decode cX7_doOne 105 = .ok (.iconst 0, 1) := by decide +kernel
theorem dX7_doOne_106 : decode cX7_doOne 106 = .ok (.iload_n 3, 1) := by decide +kernel
theorem dX7_doOne_107 : decode cX7_doOne 107 = .ok (.iload 4, 2) := by decide +kernel
theorem dX7_doOne_109 : decode cX7_doOne 109 = .ok (.invokevirtual 169, 3) := by decide +kernel
theorem dX7_doOne_112 : decode cX7_doOne 112 = .ok (.ireturn, 1) := by decide +kernel
theorem dX7_doOne_113 : decode cX7_doOne 113 = .ok (.iconst (-1), 1) := by decide +kernel
theorem dX7_doOne_114 : decode cX7_doOne 114 = .ok (.ireturn, 1) := by decide +kernel
theorem dX7_doOne_115 : decode cX7_doOne 115 = .ok (.aload_n 0, 1) := by decide +kernel
theorem dX7_doOne_116 : decode cX7_doOne 116 = .ok (.iload_n 3, 1) := by decide +kernel
theorem dX7_doOne_117 : decode cX7_doOne 117 = .ok (.invokevirtual 111, 3) := by decide +kernel
theorem dX7_doOne_120 : decode cX7_doOne 120 = .ok (.ireturn, 1) := by decide +kernel
theorem dX7_doOne_121 : decode cX7_doOne 121 = .ok (.aload_n 0, 1) := by decide +kernel
theorem dX7_doOne_122 : decode cX7_doOne 122 = .ok (.iconst 3, 1) := by decide +kernel
theorem dX7_doOne_123 : decode cX7_doOne 123 = .ok (.iload_n 3, 1) := by decide +kernel
theorem dX7_doOne_124 : decode cX7_doOne 124 = .ok (.invokevirtual 118, 3) := by decide +kernel
theorem dX7_doOne_127 : decode cX7_doOne 127 = .ok (.iconst (-1), 1) := by decide +kernel
theorem dX7_doOne_128 : decode cX7_doOne 128 = .ok (.ireturn, 1) := by decide +kernel
theorem dX7_doOne_129 : decode cX7_doOne 129 = .ok (.aload_n 0, 1) := by decide +kernel
theorem dX7_doOne_130 : decode cX7_doOne 130 = .ok (.getfield 32, 3) := by decide +kernel
theorem dX7_doOne_133 : decode cX7_doOne 133 = .ok (.iload_n 1, 1) := by decide +kernel
theorem dX7_doOne_134 : decode cX7_doOne 134 = .ok (.iconst 0, 1) := by decide +kernel
theorem dX7_doOne_135 : decode cX7_doOne 135 = .ok (.iastore, 1) := by decide +kernel
theorem dX7_doOne_136 : decode cX7_doOne 136 = .ok (.iconst (-1), 1) := by decide +kernel
theorem dX7_doOne_137 : decode cX7_doOne 137 = .ok (.ireturn, 1) := by decide +kernel
theorem dX7_other_0 : decode cX7_other 0 = .ok (.aload_n 0, 1) := by decide +kernel
theorem dX7_other_1 : decode cX7_other 1 = .ok (.getfield 29, 3) := by decide +kernel
theorem dX7_other_4 : decode cX7_other 4 = .ok (.iconst 4, 1) := by decide +kernel
theorem dX7_other_5 : decode cX7_other 5 = .ok (.iload 4, 2) := by decide +kernel
theorem dX7_other_7 : decode cX7_other 7 = .ok (.imul, 1) := by decide +kernel
theorem dX7_other_8 : decode cX7_other 8 = .ok (.iload 5, 2) := by decide +kernel
theorem dX7_other_10 : decode cX7_other 10 = .ok (.iadd, 1) := by decide +kernel
theorem dX7_other_11 : decode cX7_other 11 = .ok (.baload, 1) := by decide +kernel
theorem dX7_other_12 : decode cX7_other 12 = .ok (.ifCond .ne 7, 3) := by decide +kernel
theorem dX7_other_15 : decode cX7_other 15 = .ok (.iconst 1, 1) := by decide +kernel
theorem dX7_other_16 : decode cX7_other 16 = .ok (.goto 4, 3) := by decide +kernel
theorem dX7_other_19 : decode cX7_other 19 = .ok (.iconst 0, 1) := by decide +kernel
theorem dX7_other_20 : decode cX7_other 20 = .ok (.istore 6, 2) := by decide +kernel
theorem dX7_other_22 : decode cX7_other 22 = .ok (.iload_n 2, 1) := by decide +kernel
