theorem dX7_init_0 : decode cX7_init 0 = .ok (.aload_n 0, 1) := by decide +kernel
theorem dX7_init_1 : decode cX7_init 1 = .ok (.invokespecial 1, 3) := by decide +kernel
theorem dX7_init_4 : decode cX7_init 4 = .ok (.aload_n 0, 1) := by decide +kernel
theorem dX7_init_5 : decode cX7_init 5 = .ok (.bipush 12, 2) := by decide +kernel
theorem dX7_init_7 : decode cX7_init 7 = .ok (.newarray .boolean, 2) := by decide +kernel
theorem dX7_init_9 : decode cX7_init 9 = .ok (.putfield 7, 3) := by decide +kernel
theorem dX7_init_12 : decode cX7_init 12 = .ok (.aload_n 0, 1) := by decide +kernel
theorem dX7_init_13 : decode cX7_init 13 = .ok (.bipush 12, 2) := by decide +kernel
theorem dX7_init_15 : decode cX7_init 15 = .ok (.newarray .boolean, 2) := by decide +kernel
theorem dX7_init_17 : decode cX7_init 17 = .ok (.putfield 13, 3) := by decide +kernel
theorem dX7_init_20 : decode cX7_init 20 = .ok (.aload_n 0, 1) := by decide +kernel
theorem dX7_init_21 : decode cX7_init 21 = .ok (.bipush 12, 2) := by decide +kernel
theorem dX7_init_23 : decode cX7_init 23 = .ok (.newarray .int, 2) := by decide +kernel
theorem dX7_init_25 : decode cX7_init 25 = .ok (.putfield 16, 3) := by decide +kernel
theorem dX7_init_28 : decode cX7_init 28 = .ok (.aload_n 0, 1) := by decide +kernel
theorem dX7_init_29 : decode cX7_init 29 = .ok (.bipush 12, 2) := by decide +kernel
theorem dX7_init_31 : decode cX7_init 31 = .ok (.newarray .int, 2) := by decide +kernel
theorem dX7_init_33 : decode cX7_init 33 = .ok (.putfield 20, 3) := by decide +kernel
theorem dX7_init_36 : decode cX7_init 36 = .ok (.aload_n 0, 1) := by decide +kernel
theorem dX7_init_37 : decode cX7_init 37 = .ok (.bipush 36, 2) := by decide +kernel
theorem dX7_init_39 : decode cX7_init 39 = .ok (.newarray .int, 2) := by decide +kernel
theorem dX7_init_41 : decode cX7_init 41 = .ok (.putfield 23, 3) := by decide +kernel
theorem dX7_init_44 : decode cX7_init 44 = .ok (.aload_n 0, 1) := by decide +kernel
theorem dX7_init_45 : decode cX7_init 45 = .ok (.bipush 48, 2) := by decide +kernel
theorem dX7_init_47 : decode cX7_init 47 = .ok (.newarray .int, 2) := by decide +kernel
theorem dX7_init_49 : decode cX7_init 49 = .ok (.putfield 26, 3) := by decide +kernel
theorem dX7_init_52 : decode cX7_init 52 = .ok (.aload_n 0, 1) := by decide +kernel
theorem dX7_init_53 : decode cX7_init 53 = .ok (.bipush 48, 2) := by decide +kernel
theorem dX7_init_55 : decode cX7_init 55 = .ok (.newarray .boolean, 2) := by decide +kernel
theorem dX7_init_57 : decode cX7_init 57 = .ok (.putfield 29, 3) := by decide +kernel
theorem dX7_init_60 : decode cX7_init 60 = .ok (.aload_n 0, 1) := by decide +kernel
theorem dX7_init_61 : decode cX7_init 61 = .ok (.bipush 12, 2) := by decide +kernel
theorem dX7_init_63 : decode cX7_init 63 = .ok (.newarray .int, 2) := by decide +kernel
theorem dX7_init_65 : decode cX7_init 65 = .ok (.putfield 32, 3) := by decide +kernel
theorem dX7_init_68 : decode cX7_init 68 = .ok (.aload_n 0, 1) := by decide +kernel
theorem dX7_init_69 : decode cX7_init 69 = .ok (.sipush 240, 3) := by decide +kernel
theorem dX7_init_72 : decode cX7_init 72 = .ok (.newarray .int, 2) := by decide +kernel
theorem dX7_init_74 : decode cX7_init 74 = .ok (.putfield 35, 3) := by decide +kernel
theorem dX7_init_77 : decode cX7_init 77 = .ok (.aload_n 0, 1) := by decide +kernel
theorem dX7_init_78 : decode cX7_init 78 = .ok (.bipush 48, 2) := by decide +kernel
theorem dX7_init_80 : decode cX7_init 80 = .ok (.newarray .int, 2) := by decide +kernel
theorem dX7_init_82 : decode cX7_init 82 = .ok (.putfield 38, 3) := by decide +kernel
theorem dX7_init_85 : decode cX7_init 85 = .ok (.aload_n 0, 1) := by decide +kernel
theorem dX7_init_86 : decode cX7_init 86 = .ok (.sipush 1920, 3) := by decide +kernel
theorem dX7_init_89 : decode cX7_init 89 = .ok (.newarray .int, 2) := by decide +kernel
theorem dX7_init_91 : decode cX7_init 91 = .ok (.putfield 41, 3) := by decide +kernel
theorem dX7_init_94 : decode cX7_init 94 = .ok (.aload_n 0, 1) := by decide +kernel
theorem dX7_init_95 : decode cX7_init 95 = .ok (.bipush 12, 2) := by decide +kernel
theorem dX7_init_97 : decode cX7_init 97 = .ok (.newarray .int, 2) := by decide +kernel
theorem dX7_init_99 : decode cX7_init 99 = .ok (.putfield 44, 3) := by decide +kernel
theorem dX7_init_102 : decode cX7_init 102 = .ok (.aload_n 0, 1) := by decide +kernel
theorem dX7_init_103 : decode cX7_init 103 = .ok (.bipush 60, 2) := by decide +kernel
theorem dX7_init_105 : decode cX7_init 105 = .ok (.newarray .int, 2) := by decide +kernel
theorem dX7_init_107 : decode cX7_init 107 = .ok (.putfield 47, 3) := by decide +kernel
theorem dX7_init_110 : decode cX7_init 110 = .ok (.aload_n 0, 1) := by decide +kernel
theorem dX7_init_111 : decode cX7_init 111 = .ok (.bipush 60, 2) := by decide +kernel
theorem dX7_init_113 : decode cX7_init 113 = .ok (.newarray .int, 2) := by decide +kernel
theorem dX7_init_115 : decode cX7_init 115 = .ok (.putfield 50, 3) := by decide +kernel
theorem dX7_init_118 : decode cX7_init 118 = .ok (.aload_n 0, 1) := by decide +kernel
theorem dX7_init_119 : decode cX7_init 119 = .ok (.iconst (-1), 1) := by decide +kernel
theorem dX7_init_120 : decode cX7_init 120 = .ok (.putfield 53, 3) := by decide +kernel
theorem dX7_init_123 : decode cX7_init 123 = .ok (.aload_n 0, 1) := by decide +kernel
theorem dX7_init_124 : decode cX7_init 124 = .ok (.sipush 300, 3) := by decide +kernel
theorem dX7_init_127 : decode cX7_init 127 = .ok (.newarray .int, 2) := by decide +kernel
theorem dX7_init_129 : decode cX7_init 129 = .ok (.putfield 57, 3) := by decide +kernel
theorem dX7_init_132 : decode cX7_init 132 = .ok (.aload_n 0, 1) := by decide +kernel
theorem dX7_init_133 : decode cX7_init 133 = .ok (.sipush 300, 3) := by decide +kernel
theorem dX7_init_136 : decode cX7_init 136 = .ok (.newarray .int, 2) := by decide +kernel
theorem dX7_init_138 : decode cX7_init 138 = .ok (.putfield 60, 3) := by decide +kernel
theorem dX7_init_141 : decode cX7_init 141 = .ok (.aload_n 0, 1) := by decide +kernel
theorem dX7_init_142 : decode cX7_init 142 = .ok (.sipush 300, 3) := by decide +kernel
theorem dX7_init_145 : decode cX7_init 145 = .ok (.newarray .int, 2) := by decide +kernel
theorem dX7_init_147 : decode cX7_init 147 = .ok (.putfield 63, 3) := by decide +kernel
theorem dX7_init_150 : decode cX7_init 150 = .ok (.aload_n 0, 1) := by decide +kernel
theorem dX7_init_151 : decode cX7_init 151 = .ok (.sipush 300, 3) := by decide +kernel
theorem dX7_init_154 : decode cX7_init 154 = .ok (.newarray .int, 2) := by decide +kernel
theorem dX7_init_156 : decode cX7_init 156 = .ok (.putfield 66, 3) := by decide +kernel
theorem dX7_init_159 : decode cX7_init 159 = .ok (.aload_n 0, 1) := by decide +kernel
theorem dX7_init_160 : decode cX7_init 160 = .ok (.sipush 300, 3) := by decide +kernel
theorem dX7_init_163 : decode cX7_init 163 = .ok (.newarray .int, 2) := by decide +kernel
theorem dX7_init_165 : decode cX7_init 165 = .ok (.putfield 69, 3) := by decide +kernel
theorem dX7_init_168 : decode cX7_init 168 = .ok (.aload_n 0, 1) := by decide +kernel
theorem dX7_init_169 : decode cX7_init 169 = .ok (.sipush 300, 3) := by decide +kernel
theorem dX7_init_172 : decode cX7_init 172 = .ok (.newarray .int, 2) := by decide +kernel
theorem dX7_init_174 : decode cX7_init 174 = .ok (.putfield 72, 3) := by decide +kernel
theorem dX7_init_177 : decode cX7_init 177 = .ok (.aload_n 0, 1) := by decide +kernel
theorem dX7_init_178 : decode cX7_init 178 = .ok (.sipush 3000, 3) := by decide +kernel
theorem dX7_init_181 : decode cX7_init 181 = .ok (.newarray .int, 2) := by decide +kernel
theorem dX7_init_183 : decode cX7_init 183 = .ok (.putfield 75, 3) := by decide +kernel
theorem dX7_init_186 : decode cX7_init 186 = .ok (.aload_n 0, 1) := by decide +kernel
theorem dX7_init_187 : decode cX7_init 187 = .ok (.sipush 3000, 3) := by decide +kernel
theorem dX7_init_190 : decode cX7_init 190 = .ok (.newarray .int, 2) := by decide +kernel
theorem dX7_init_192 : decode cX7_init 192 = .ok (.putfield 78, 3) := by decide +kernel
theorem dX7_init_195 : decode cX7_init 195 = .ok (.aload_n 0, 1) := by decide +kernel
theorem dX7_init_196 : decode cX7_init 196 = .ok (.bipush 48, 2) := by decide +kernel
theorem dX7_init_198 : decode cX7_init 198 = .ok (.newarray .boolean, 2) := by decide +kernel
theorem dX7_init_200 : decode cX7_init 200 = .ok (.putfield 81, 3) := by decide +kernel
theorem dX7_init_203 : decode cX7_init 203 = .ok (.return_, 1) := by decide +kernel
theorem dX7_has_0 : decode cX7_has 0 = .ok (.iload_n 1, 1) := by decide +kernel
theorem dX7_has_1 : decode cX7_has 1 = .ok (.ifCond .lt 15, 3) := by decide +kernel
theorem dX7_has_4 : decode cX7_has 4 = .ok (.iload_n 1, 1) := by decide +kernel
theorem dX7_has_5 : decode cX7_has 5 = .ok (.aload_n 0, 1) := by decide +kernel
theorem dX7_has_6 : decode cX7_has 6 = .ok (.getfield 84, 3) := by decide +kernel
theorem dX7_has_9 : decode cX7_has 9 = .ok (.if_icmp .ge 7, 3) := by decide +kernel
theorem dX7_has_12 : decode cX7_has 12 = .ok (.iconst 1, 1) := by decide +kernel
theorem dX7_has_13 : decode cX7_has 13 = .ok (.goto 4, 3) := by decide +kernel
theorem dX7_has_16 : decode cX7_has 16 = .ok (.iconst 0, 1) := by decide +kernel
theorem dX7_has_17 : decode cX7_has 17 = .ok (.ireturn, 1) := by decide +kernel
theorem dX7_make_0 : decode cX7_make 0 = .ok (.aload_n 0, 1) := by decide +kernel
theorem dX7_make_1 : decode cX7_make 1 = .ok (.getfield 84, 3) := by decide +kernel
theorem dX7_make_4 : decode cX7_make 4 = .ok (.bipush 12, 2) := by decide +kernel
theorem dX7_make_6 : decode cX7_make 6 = .ok (.if_icmp .ne 6, 3) := by decide +kernel
theorem dX7_make_9 : decode cX7_make 9 = .ok (.bipush (-5), 2) := by decide +kernel
theorem dX7_make_11 : decode cX7_make 11 = .ok (.ireturn, 1) := by decide +kernel
theorem dX7_make_12 : decode cX7_make 12 = .ok (.aload_n 0, 1) := by decide +kernel
theorem dX7_make_13 : decode cX7_make 13 = .ok (.getfield 7, 3) := by decide +kernel
theorem dX7_make_16 : decode cX7_make 16 = .ok (.aload_n 0, 1) := by decide +kernel
theorem dX7_make_17 : decode cX7_make 17 = .ok (.getfield 84, 3) := by decide +kernel
theorem dX7_make_20 : decode cX7_make 20 = .ok (.iload_n 1, 1) := by decide +kernel
theorem dX7_make_21 : decode cX7_make 21 = .ok (.bastore, 1) := by decide +kernel
theorem dX7_make_22 : decode cX7_make 22 = .ok (.aload_n 0, 1) := by decide +kernel
theorem dX7_make_23 : decode cX7_make 23 = .ok (.getfield 13, 3) := by decide +kernel
theorem dX7_make_26 : decode cX7_make 26 = .ok (.aload_n 0, 1) := by decide +kernel
theorem dX7_make_27 : decode cX7_make 27 = .ok (.getfield 84, 3) := by decide +kernel
theorem dX7_make_30 : decode cX7_make 30 = .ok (.iload_n 2, 1) := by decide +kernel
theorem dX7_make_31 : decode cX7_make 31 = .ok (.bastore, 1) := by decide +kernel
theorem dX7_make_32 : decode cX7_make 32 = .ok (.aload_n 0, 1) := by decide +kernel
theorem dX7_make_33 : decode cX7_make 33 = .ok (.getfield 16, 3) := by decide +kernel
theorem dX7_make_36 : decode cX7_make 36 = .ok (.aload_n 0, 1) := by decide +kernel
theorem dX7_make_37 : decode cX7_make 37 = .ok (.getfield 84, 3) := by decide +kernel
theorem dX7_make_40 : decode cX7_make 40 = .ok (.iload_n 3, 1) := by decide +kernel
theorem dX7_make_41 : decode cX7_make 41 = .ok (.iastore, 1) := by decide +kernel
theorem dX7_make_42 : decode cX7_make 42 = .ok (.aload_n 0, 1) := by decide +kernel
theorem dX7_make_43 : decode cX7_make 43 = .ok (.dup, 1) := by decide +kernel
theorem dX7_make_44 : decode cX7_make 44 = .ok (.getfield 84, 3) := by decide +kernel
theorem dX7_make_47 : decode cX7_make 47 = .ok (.iconst 1, 1) := by decide +kernel
theorem dX7_make_48 : decode cX7_make 48 = .ok (.iadd, 1) := by decide +kernel
theorem dX7_make_49 : decode cX7_make 49 = .ok (.putfield 84, 3) := by decide +kernel
theorem dX7_make_52 : decode cX7_make 52 = .ok (.aload_n 0, 1) := by decide +kernel
theorem dX7_make_53 : decode cX7_make 53 = .ok (.getfield 84, 3) := by decide +kernel
theorem dX7_make_56 : decode cX7_make 56 = .ok (.iconst 1, 1) := by decide +kernel
theorem dX7_make_57 : decode cX7_make 57 = .ok (.isub, 1) := by decide +kernel
theorem dX7_make_58 : decode cX7_make 58 = .ok (.ireturn, 1) := by decide +kernel
theorem dX7_made_0 : decode cX7_made 0 = .ok (.iload_n 1, 1) := by decide +kernel
theorem dX7_made_1 : decode cX7_made 1 = .ok (.iconst (-1), 1) := by decide +kernel
theorem dX7_made_2 : decode cX7_made 2 = .ok (.if_icmp .eq 14, 3) := by decide +kernel
theorem dX7_made_5 : decode cX7_made 5 = .ok (.aload_n 0, 1) := by decide +kernel
theorem dX7_made_6 : decode cX7_made 6 = .ok (.iload_n 1, 1) := by decide +kernel
theorem dX7_made_7 : decode cX7_made 7 = .ok (.invokevirtual 87, 3) := by decide +kernel
theorem dX7_made_10 : decode cX7_made 10 = .ok (.ifCond .ne 6, 3) := by decide +kernel
theorem dX7_made_13 : decode cX7_made 13 = .ok (.bipush (-2), 2) := by decide +kernel
theorem dX7_made_15 : decode cX7_made 15 = .ok (.ireturn, 1) := by decide +kernel
theorem dX7_made_16 : decode cX7_made 16 = .ok (.iload_n 1, 1) := by decide +kernel
theorem dX7_made_17 : decode cX7_made 17 = .ok (.iconst (-1), 1) := by decide +kernel
theorem dX7_made_18 : decode cX7_made 18 = .ok (.if_icmp .eq 15, 3) := by decide +kernel
theorem dX7_made_21 : decode cX7_made 21 = .ok (.aload_n 0, 1) := by decide +kernel
theorem dX7_made_22 : decode cX7_made 22 = .ok (.getfield 7, 3) := by decide +kernel
theorem dX7_made_25 : decode cX7_made 25 = .ok (.iload_n 1, 1) := by decide +kernel
theorem dX7_made_26 : decode cX7_made 26 = .ok (.baload, 1) := by decide +kernel
theorem dX7_made_27 : decode cX7_made 27 = .ok (.ifCond .eq 6, 3) := by decide +kernel
theorem dX7_made_30 : decode cX7_made 30 = .ok (.bipush (-4), 2) := by decide +kernel
theorem dX7_made_32 : decode cX7_made 32 = .ok (.ireturn, 1) := by decide +kernel
theorem dX7_made_33 : decode cX7_made 33 = .ok (.aload_n 0, 1) := by decide +kernel
theorem dX7_made_34 : decode cX7_made 34 = .ok (.iconst 0, 1) := by decide +kernel
theorem dX7_made_35 : decode cX7_made 35 = .ok (.iconst 0, 1) := by decide +kernel
theorem dX7_made_36 : decode cX7_made 36 = .ok (.iload_n 1, 1) := by decide +kernel
theorem dX7_made_37 : decode cX7_made 37 = .ok (.invokevirtual 91, 3) := by decide +kernel
theorem dX7_made_40 : decode cX7_made 40 = .ok (.ireturn, 1) := by decide +kernel
theorem dX7_face_0 : decode cX7_face 0 = .ok (.aload_n 0, 1) := by decide +kernel
theorem dX7_face_1 : decode cX7_face 1 = .ok (.iconst 1, 1) := by decide +kernel
theorem dX7_face_2 : decode cX7_face 2 = .ok (.iload_n 1, 1) := by decide +kernel
theorem dX7_face_3 : decode cX7_face 3 = .ok (.iconst (-1), 1) := by decide +kernel
theorem dX7_face_4 : decode cX7_face 4 = .ok (.invokevirtual 91, 3) := by decide +kernel
theorem dX7_face_7 : decode cX7_face 7 = .ok (.ireturn, 1) := by decide +kernel
theorem dX7_bears_0 : decode cX7_bears 0 = .ok (.aload_n 0, 1) := by decide +kernel
theorem dX7_bears_1 : decode cX7_bears 1 = .ok (.iload_n 1, 1) := by decide +kernel
theorem dX7_bears_2 : decode cX7_bears 2 = .ok (.invokevirtual 87, 3) := by decide +kernel
theorem dX7_bears_5 : decode cX7_bears 5 = .ok (.ifCond .eq 11, 3) := by decide +kernel
theorem dX7_bears_8 : decode cX7_bears 8 = .ok (.aload_n 0, 1) := by decide +kernel
theorem dX7_bears_9 : decode cX7_bears 9 = .ok (.iload_n 2, 1) := by decide +kernel
theorem dX7_bears_10 : decode cX7_bears 10 = .ok (.invokevirtual 87, 3) := by decide +kernel
theorem dX7_bears_13 : decode cX7_bears 13 = .ok (.ifCond .ne 6, 3) := by decide +kernel
theorem dX7_bears_16 : decode cX7_bears 16 = .ok (.bipush (-2), 2) := by decide +kernel
theorem dX7_bears_18 : decode cX7_bears 18 = .ok (.ireturn, 1) := by decide +kernel
theorem dX7_bears_19 : decode cX7_bears 19 = .ok (.iconst 0, 1) := by decide +kernel
theorem dX7_bears_20 : decode cX7_bears 20 = .ok (.istore_n 3, 1) := by decide +kernel
theorem dX7_bears_21 : decode cX7_bears 21 = .ok (.iconst 0, 1) := by decide +kernel
theorem dX7_bears_22 : decode cX7_bears 22 = .ok (.istore 4, 2) := by decide +kernel
theorem dX7_bears_24 : decode cX7_bears 24 = .ok (.iload 4, 2) := by decide +kernel
theorem dX7_bears_26 : decode cX7_bears 26 = .ok (.aload_n 0, 1) := by decide +kernel
theorem dX7_bears_27 : decode cX7_bears 27 = .ok (.getfield 20, 3) := by decide +kernel
theorem dX7_bears_30 : decode cX7_bears 30 = .ok (.iload_n 1, 1) := by decide +kernel
theorem dX7_bears_31 : decode cX7_bears 31 = .ok (.iaload, 1) := by decide +kernel
theorem dX7_bears_32 : decode cX7_bears 32 = .ok (.if_icmp .ge 34, 3) := by decide +kernel
theorem dX7_bears_35 : decode cX7_bears 35 = .ok (.iload_n 3, 1) := by decide +kernel
theorem dX7_bears_36 : decode cX7_bears 36 = .ok (.ifCond .ne 18, 3) := by decide +kernel
theorem dX7_bears_39 : decode cX7_bears 39 = .ok (.aload_n 0, 1) := by decide +kernel
theorem dX7_bears_40 : decode cX7_bears 40 = .ok (.getfield 23, 3) := by decide +kernel
theorem dX7_bears_43 : decode cX7_bears 43 = .ok (.iconst 3, 1) := by decide +kernel
theorem dX7_bears_44 : decode cX7_bears 44 = .ok (.iload_n 1, 1) := by decide +kernel
theorem dX7_bears_45 : decode cX7_bears 45 = .ok (.imul, 1) := by decide +kernel
theorem dX7_bears_46 : decode cX7_bears 46 = .ok (.iload 4, 2) := by decide +kernel
theorem dX7_bears_48 : decode cX7_bears 48 = .ok (.iadd, 1) := by decide +kernel
theorem dX7_bears_49 : decode cX7_bears 49 = .ok (.iaload, 1) := by decide +kernel
theorem dX7_bears_50 : decode cX7_bears 50 = .ok (.iload_n 2, 1) := by decide +kernel
theorem dX7_bears_51 : decode cX7_bears 51 = .ok (.if_icmp .ne 7, 3) := by decide +kernel
theorem dX7_bears_54 : decode cX7_bears 54 = .ok (.iconst 1, 1) := by decide +kernel
theorem dX7_bears_55 : decode cX7_bears 55 = .ok (.goto 4, 3) := by decide +kernel
theorem dX7_bears_58 : decode cX7_bears 58 = .ok (.iconst 0, 1) := by decide +kernel
theorem dX7_bears_59 : decode cX7_bears 59 = .ok (.istore_n 3, 1) := by decide +kernel
theorem dX7_bears_60 : decode cX7_bears 60 = .ok (.iinc 4 1, 3) := by decide +kernel
theorem dX7_bears_63 : decode cX7_bears 63 = .ok (.goto (-39), 3) := by decide +kernel
theorem dX7_bears_66 : decode cX7_bears 66 = .ok (.aload_n 0, 1) := by decide +kernel
theorem dX7_bears_67 : decode cX7_bears 67 = .ok (.getfield 7, 3) := by decide +kernel
theorem dX7_bears_70 : decode cX7_bears 70 = .ok (.iload_n 2, 1) := by decide +kernel
theorem dX7_bears_71 : decode cX7_bears 71 = .ok (.baload, 1) := by decide +kernel
theorem dX7_bears_72 : decode cX7_bears 72 = .ok (.ifCond .eq 21, 3) := by decide +kernel
theorem dX7_bears_75 : decode cX7_bears 75 = .ok (.iload_n 2, 1) := by decide +kernel
theorem dX7_bears_76 : decode cX7_bears 76 = .ok (.iload_n 1, 1) := by decide +kernel
theorem dX7_bears_77 : decode cX7_bears 77 = .ok (.if_icmp .ge 16, 3) := by decide +kernel
theorem dX7_bears_80 : decode cX7_bears 80 = .ok (.iload_n 3, 1) := by decide +kernel
theorem dX7_bears_81 : decode cX7_bears 81 = .ok (.ifCond .ne 12, 3) := by decide +kernel
theorem dX7_bears_84 : decode cX7_bears 84 = .ok (.aload_n 0, 1) := by decide +kernel
theorem dX7_bears_85 : decode cX7_bears 85 = .ok (.getfield 44, 3) := by decide +kernel
theorem dX7_bears_88 : decode cX7_bears 88 = .ok (.iload_n 1, 1) := by decide +kernel
theorem dX7_bears_89 : decode cX7_bears 89 = .ok (.iaload, 1) := by decide +kernel
theorem dX7_bears_90 : decode cX7_bears 90 = .ok (.ifCond .eq 6, 3) := by decide +kernel
theorem dX7_bears_93 : decode cX7_bears 93 = .ok (.bipush (-4), 2) := by decide +kernel
theorem dX7_bears_95 : decode cX7_bears 95 = .ok (.ireturn, 1) := by decide +kernel
theorem dX7_bears_96 : decode cX7_bears 96 = .ok (.aload_n 0, 1) := by decide +kernel
theorem dX7_bears_97 : decode cX7_bears 97 = .ok (.getfield 20, 3) := by decide +kernel
theorem dX7_bears_100 : decode cX7_bears 100 = .ok (.iload_n 1, 1) := by decide +kernel
theorem dX7_bears_101 : decode cX7_bears 101 = .ok (.iaload, 1) := by decide +kernel
theorem dX7_bears_102 : decode cX7_bears 102 = .ok (.iconst 3, 1) := by decide +kernel
theorem dX7_bears_103 : decode cX7_bears 103 = .ok (.if_icmp .ne 6, 3) := by decide +kernel
theorem dX7_bears_106 : decode cX7_bears 106 = .ok (.bipush (-5), 2) := by decide +kernel
theorem dX7_bears_108 : decode cX7_bears 108 = .ok (.ireturn, 1) := by decide +kernel
theorem dX7_bears_109 : decode cX7_bears 109 = .ok (.aload_n 0, 1) := by decide +kernel
theorem dX7_bears_110 : decode cX7_bears 110 = .ok (.getfield 23, 3) := by decide +kernel
theorem dX7_bears_113 : decode cX7_bears 113 = .ok (.iconst 3, 1) := by decide +kernel
theorem dX7_bears_114 : decode cX7_bears 114 = .ok (.iload_n 1, 1) := by decide +kernel
theorem dX7_bears_115 : decode cX7_bears 115 = .ok (.imul, 1) := by decide +kernel
theorem dX7_bears_116 : decode cX7_bears 116 = .ok (.aload_n 0, 1) := by decide +kernel
theorem dX7_bears_117 : decode cX7_bears 117 = .ok (.getfield 20, 3) := by decide +kernel
theorem dX7_bears_120 : decode cX7_bears 120 = .ok (.iload_n 1, 1) := by decide +kernel
theorem dX7_bears_121 : decode cX7_bears 121 = .ok (.iaload, 1) := by decide +kernel
theorem dX7_bears_122 : decode cX7_bears 122 = .ok (.iadd, 1) := by decide +kernel
theorem dX7_bears_123 : decode cX7_bears 123 = .ok (.iload_n 2, 1) := by decide +kernel
theorem dX7_bears_124 : decode cX7_bears 124 = .ok (.iastore, 1) := by decide +kernel
theorem dX7_bears_125 : decode cX7_bears 125 = .ok (.aload_n 0, 1) := by decide +kernel
theorem dX7_bears_126 : decode cX7_bears 126 = .ok (.getfield 20, 3) := by decide +kernel
theorem dX7_bears_129 : decode cX7_bears 129 = .ok (.iload_n 1, 1) := by decide +kernel
theorem dX7_bears_130 : decode cX7_bears 130 = .ok (.dup2, 1) := by decide +kernel
theorem dX7_bears_131 : decode cX7_bears 131 = .ok (.iaload, 1) := by decide +kernel
theorem dX7_bears_132 : decode cX7_bears 132 = .ok (.iconst 1, 1) := by decide +kernel
theorem dX7_bears_133 : decode cX7_bears 133 = .ok (.iadd, 1) := by decide +kernel
theorem dX7_bears_134 : decode cX7_bears 134 = .ok (.iastore, 1) := by decide +kernel
theorem dX7_bears_135 : decode cX7_bears 135 = .ok (.aload_n 0, 1) := by decide +kernel
theorem dX7_bears_136 : decode cX7_bears 136 = .ok (.getfield 20, 3) := by decide +kernel
theorem dX7_bears_139 : decode cX7_bears 139 = .ok (.iload_n 1, 1) := by decide +kernel
theorem dX7_bears_140 : decode cX7_bears 140 = .ok (.iaload, 1) := by decide +kernel
theorem dX7_bears_141 : decode cX7_bears 141 = .ok (.ireturn, 1) := by decide +kernel
theorem dX7_isField_0 : decode cX7_isField 0 = .ok (.iload_n 0, 1) := by decide +kernel
theorem dX7_isField_1 : decode cX7_isField 1 = .ok (.ifCond .lt 12, 3) := by decide +kernel
theorem dX7_isField_4 : decode cX7_isField 4 = .ok (.iload_n 0, 1) := by decide +kernel
theorem dX7_isField_5 : decode cX7_isField 5 = .ok (.iconst 4, 1) := by decide +kernel
theorem dX7_isField_6 : decode cX7_isField 6 = .ok (.if_icmp .ge 7, 3) := by decide +kernel
theorem dX7_isField_9 : decode cX7_isField 9 = .ok (.iconst 1, 1) := by decide +kernel
theorem dX7_isField_10 : decode cX7_isField 10 = .ok (.goto 4, 3) := by decide +kernel
theorem dX7_isField_13 : decode cX7_isField 13 = .ok (.iconst 0, 1) := by decide +kernel
theorem dX7_isField_14 : decode cX7_isField 14 = .ok (.ireturn, 1) := by decide +kernel
theorem dX7_constant_0 : decode cX7_constant 0 = .ok (.aload_n 0, 1) := by decide +kernel
theorem dX7_constant_1 : decode cX7_constant 1 = .ok (.iload_n 1, 1) := by decide +kernel
theorem dX7_constant_2 : decode cX7_constant 2 = .ok (.invokevirtual 87, 3) := by decide +kernel
theorem dX7_constant_5 : decode cX7_constant 5 = .ok (.ifCond .ne 6, 3) := by decide +kernel
theorem dX7_constant_8 : decode cX7_constant 8 = .ok (.bipush (-2), 2) := by decide +kernel
theorem dX7_constant_10 : decode cX7_constant 10 = .ok (.ireturn, 1) := by decide +kernel
theorem dX7_constant_11 : decode cX7_constant 11 = .ok (.iload_n 2, 1) := by decide +kernel
theorem dX7_constant_12 : decode cX7_constant 12 = .ok (.invokestatic 95, 3) := by decide +kernel
theorem dX7_constant_15 : decode cX7_constant 15 = .ok (.ifCond .ne 6, 3) := by decide +kernel
theorem dX7_constant_18 : decode cX7_constant 18 = .ok (.bipush (-3), 2) := by decide +kernel
theorem dX7_constant_20 : decode cX7_constant 20 = .ok (.ireturn, 1) := by decide +kernel
theorem dX7_constant_21 : decode cX7_constant 21 = .ok (.aload_n 0, 1) := by decide +kernel
theorem dX7_constant_22 : decode cX7_constant 22 = .ok (.getfield 29, 3) := by decide +kernel
theorem dX7_constant_25 : decode cX7_constant 25 = .ok (.iconst 4, 1) := by decide +kernel
theorem dX7_constant_26 : decode cX7_constant 26 = .ok (.iload_n 1, 1) := by decide +kernel
theorem dX7_constant_27 : decode cX7_constant 27 = .ok (.imul, 1) := by decide +kernel
theorem dX7_constant_28 : decode cX7_constant 28 = .ok (.iload_n 2, 1) := by decide +kernel
theorem dX7_constant_29 : decode cX7_constant 29 = .ok (.iadd, 1) := by decide +kernel
theorem dX7_constant_30 : decode cX7_constant 30 = .ok (.baload, 1) := by decide +kernel
theorem dX7_constant_31 : decode cX7_constant 31 = .ok (.ifCond .ne 12, 3) := by decide +kernel
theorem dX7_constant_34 : decode cX7_constant 34 = .ok (.aload_n 0, 1) := by decide +kernel
theorem dX7_constant_35 : decode cX7_constant 35 = .ok (.getfield 44, 3) := by decide +kernel
theorem dX7_constant_38 : decode cX7_constant 38 = .ok (.iload_n 1, 1) := by decide +kernel
theorem dX7_constant_39 : decode cX7_constant 39 = .ok (.iaload, 1) := by decide +kernel
theorem dX7_constant_40 : decode cX7_constant 40 = .ok (.ifCond .eq 6, 3) := by decide +kernel
theorem dX7_constant_43 : decode cX7_constant 43 = .ok (.bipush (-4), 2) := by decide +kernel
theorem dX7_constant_45 : decode cX7_constant 45 = .ok (.ireturn, 1) := by decide +kernel
theorem dX7_constant_46 : decode cX7_constant 46 = .ok (.aload_n 0, 1) := by decide +kernel
theorem dX7_constant_47 : decode cX7_constant 47 = .ok (.getfield 29, 3) := by decide +kernel
theorem dX7_constant_50 : decode cX7_constant 50 = .ok (.iconst 4, 1) := by decide +kernel
theorem dX7_constant_51 : decode cX7_constant 51 = .ok (.iload_n 1, 1) := by decide +kernel
theorem dX7_constant_52 : decode cX7_constant 52 = .ok (.imul, 1) := by decide +kernel
theorem dX7_constant_53 : decode cX7_constant 53 = .ok (.iload_n 2, 1) := by decide +kernel
theorem dX7_constant_54 : decode cX7_constant 54 = .ok (.iadd, 1) := by decide +kernel
theorem dX7_constant_55 : decode cX7_constant 55 = .ok (.iconst 1, 1) := by decide +kernel
theorem dX7_constant_56 : decode cX7_constant 56 = .ok (.bastore, 1) := by decide +kernel
theorem dX7_constant_57 : decode cX7_constant 57 = .ok (.aload_n 0, 1) := by decide +kernel
theorem dX7_constant_58 : decode cX7_constant 58 = .ok (.getfield 26, 3) := by decide +kernel
theorem dX7_constant_61 : decode cX7_constant 61 = .ok (.iconst 4, 1) := by decide +kernel
theorem dX7_constant_62 : decode cX7_constant 62 = .ok (.iload_n 1, 1) := by decide +kernel
theorem dX7_constant_63 : decode cX7_constant 63 = .ok (.imul, 1) := by decide +kernel
theorem dX7_constant_64 : decode cX7_constant 64 = .ok (.iload_n 2, 1) := by decide +kernel
theorem dX7_constant_65 : decode cX7_constant 65 = .ok (.iadd, 1) := by decide +kernel
theorem dX7_constant_66 : decode cX7_constant 66 = .ok (.iload_n 3, 1) := by decide +kernel
theorem dX7_constant_67 : decode cX7_constant 67 = .ok (.iastore, 1) := by decide +kernel
theorem dX7_constant_68 : decode cX7_constant 68 = .ok (.iconst 1, 1) := by decide +kernel
theorem dX7_constant_69 : decode cX7_constant 69 = .ok (.ireturn, 1) := by decide +kernel
theorem dX7_areIn_0 : decode cX7_areIn 0 = .ok (.iload_n 0, 1) := by decide +kernel
theorem dX7_areIn_1 : decode cX7_areIn 1 = .ok (.tableswitch 167 0 11 #[63, 68, 68, 68, 63, 88, 88, 108, 167, 124, 167, 139], 63) := by decide +kernel
theorem dX7_areIn_64 : decode cX7_areIn 64 = .ok (.iload_n 1, 1) := by decide +kernel
theorem dX7_areIn_65 : decode cX7_areIn 65 = .ok (.invokestatic 95, 3) := by decide +kernel
theorem dX7_areIn_68 : decode cX7_areIn 68 = .ok (.ireturn, 1) := by decide +kernel
theorem dX7_areIn_69 : decode cX7_areIn 69 = .ok (.iload_n 1, 1) := by decide +kernel
theorem dX7_areIn_70 : decode cX7_areIn 70 = .ok (.invokestatic 95, 3) := by decide +kernel
theorem dX7_areIn_73 : decode cX7_areIn 73 = .ok (.ifCond .eq 14, 3) := by decide +kernel
theorem dX7_areIn_76 : decode cX7_areIn 76 = .ok (.iload_n 3, 1) := by decide +kernel
theorem dX7_areIn_77 : decode cX7_areIn 77 = .ok (.invokestatic 95, 3) := by decide +kernel
theorem dX7_areIn_80 : decode cX7_areIn 80 = .ok (.ifCond .eq 7, 3) := by decide +kernel
theorem dX7_areIn_83 : decode cX7_areIn 83 = .ok (.iconst 1, 1) := by decide +kernel
theorem dX7_areIn_84 : decode cX7_areIn 84 = .ok (.goto 4, 3) := by decide +kernel
theorem dX7_areIn_87 : decode cX7_areIn 87 = .ok (.iconst 0, 1) := by decide +kernel
theorem dX7_areIn_88 : decode cX7_areIn 88 = .ok (.ireturn, 1) := by decide +kernel
theorem dX7_areIn_89 : decode cX7_areIn 89 = .ok (.iload_n 1, 1) := by decide +kernel
theorem dX7_areIn_90 : decode cX7_areIn 90 = .ok (.invokestatic 95, 3) := by decide +kernel
theorem dX7_areIn_93 : decode cX7_areIn 93 = .ok (.ifCond .eq 14, 3) := by decide +kernel
theorem dX7_areIn_96 : decode cX7_areIn 96 = .ok (.iload_n 2, 1) := by decide +kernel
theorem dX7_areIn_97 : decode cX7_areIn 97 = .ok (.invokestatic 95, 3) := by decide +kernel
theorem dX7_areIn_100 : decode cX7_areIn 100 = .ok (.ifCond .eq 7, 3) := by decide +kernel
theorem dX7_areIn_103 : decode cX7_areIn 103 = .ok (.iconst 1, 1) := by decide +kernel
theorem dX7_areIn_104 : decode cX7_areIn 104 = .ok (.goto 4, 3) := by decide +kernel
theorem dX7_areIn_107 : decode cX7_areIn 107 = .ok (.iconst 0, 1) := by decide +kernel
theorem dX7_areIn_108 : decode cX7_areIn 108 = .ok (.ireturn, 1) := by decide +kernel
theorem dX7_areIn_109 : decode cX7_areIn 109 = .ok (.iload_n 2, 1) := by decide +kernel
theorem dX7_areIn_110 : decode cX7_areIn 110 = .ok (.iconst 1, 1) := by decide +kernel
theorem dX7_areIn_111 : decode cX7_areIn 111 = .ok (.if_icmp .lt 12, 3) := by decide +kernel
theorem dX7_areIn_114 : decode cX7_areIn 114 = .ok (.iload_n 2, 1) := by decide +kernel
theorem dX7_areIn_115 : decode cX7_areIn 115 = .ok (.iconst 3, 1) := by decide +kernel
theorem dX7_areIn_116 : decode cX7_areIn 116 = .ok (.if_icmp .gt 7, 3) := by decide +kernel
theorem dX7_areIn_119 : decode cX7_areIn 119 = .ok (.iconst 1, 1) := by decide +kernel
theorem dX7_areIn_120 : decode cX7_areIn 120 = .ok (.goto 4, 3) := by decide +kernel
theorem dX7_areIn_123 : decode cX7_areIn 123 = .ok (.iconst 0, 1) := by decide +kernel
theorem dX7_areIn_124 : decode cX7_areIn 124 = .ok (.ireturn, 1) := by decide +kernel
theorem dX7_areIn_125 : decode cX7_areIn 125 = .ok (.iload_n 1, 1) := by decide +kernel
theorem dX7_areIn_126 : decode cX7_areIn 126 = .ok (.ifCond .lt 12, 3) := by decide +kernel
theorem dX7_areIn_129 : decode cX7_areIn 129 = .ok (.iload_n 1, 1) := by decide +kernel
theorem dX7_areIn_130 : decode cX7_areIn 130 = .ok (.iconst 2, 1) := by decide +kernel
theorem dX7_areIn_131 : decode cX7_areIn 131 = .ok (.if_icmp .gt 7, 3) := by decide +kernel
theorem dX7_areIn_134 : decode cX7_areIn 134 = .ok (.iconst 1, 1) := by decide +kernel
theorem dX7_areIn_135 : decode cX7_areIn 135 = .ok (.goto 4, 3) := by decide +kernel
theorem dX7_areIn_138 : decode cX7_areIn 138 = .ok (.iconst 0, 1) := by decide +kernel
theorem dX7_areIn_139 : decode cX7_areIn 139 = .ok (.ireturn, 1) := by decide +kernel
theorem dX7_areIn_140 : decode cX7_areIn 140 = .ok (.iload_n 1, 1) := by decide +kernel
theorem dX7_areIn_141 : decode cX7_areIn 141 = .ok (.iconst 1, 1) := by decide +kernel
theorem dX7_areIn_142 : decode cX7_areIn 142 = .ok (.if_icmp .lt 24, 3) := by decide +kernel
theorem dX7_areIn_145 : decode cX7_areIn 145 = .ok (.iload_n 1, 1) := by decide +kernel
theorem dX7_areIn_146 : decode cX7_areIn 146 = .ok (.bipush 9, 2) := by decide +kernel
theorem dX7_areIn_148 : decode cX7_areIn 148 = .ok (.if_icmp .gt 18, 3) := by decide +kernel
theorem dX7_areIn_151 : decode cX7_areIn 151 = .ok (.iload_n 2, 1) := by decide +kernel
theorem dX7_areIn_152 : decode cX7_areIn 152 = .ok (.iconst (-1), 1) := by decide +kernel
theorem dX7_areIn_153 : decode cX7_areIn 153 = .ok (.if_icmp .lt 13, 3) := by decide +kernel
theorem dX7_areIn_156 : decode cX7_areIn 156 = .ok (.iload_n 2, 1) := by decide +kernel
theorem dX7_areIn_157 : decode cX7_areIn 157 = .ok (.bipush 9, 2) := by decide +kernel
theorem dX7_areIn_159 : decode cX7_areIn 159 = .ok (.if_icmp .gt 7, 3) := by decide +kernel
theorem dX7_areIn_162 : decode cX7_areIn 162 = .ok (.iconst 1, 1) := by decide +kernel
theorem dX7_areIn_163 : decode cX7_areIn 163 = .ok (.goto 4, 3) := by decide +kernel
theorem dX7_areIn_166 : decode cX7_areIn 166 = .ok (.iconst 0, 1) := by decide +kernel
theorem dX7_areIn_167 : decode cX7_areIn 167 = .ok (.ireturn, 1) := by decide +kernel
theorem dX7_areIn_168 : decode cX7_areIn 168 = .ok (.iconst 1, 1) := by decide +kernel
theorem dX7_areIn_169 : decode cX7_areIn 169 = .ok (.ireturn, 1) := by decide +kernel
theorem dX7_act_0 : decode cX7_act 0 = .ok (.iload_n 3, 1) := by decide +kernel
theorem dX7_act_1 : decode cX7_act 1 = .ok (.iconst 1, 1) := by decide +kernel
theorem dX7_act_2 : decode cX7_act 2 = .ok (.if_icmp .lt 17, 3) := by decide +kernel
theorem dX7_act_5 : decode cX7_act 5 = .ok (.iload_n 3, 1) := by decide +kernel
theorem dX7_act_6 : decode cX7_act 6 = .ok (.iconst 3, 1) := by decide +kernel
theorem dX7_act_7 : decode cX7_act 7 = .ok (.if_icmp .gt 12, 3) := by decide +kernel
theorem dX7_act_10 : decode cX7_act 10 = .ok (.aload_n 0, 1) := by decide +kernel
theorem dX7_act_11 : decode cX7_act 11 = .ok (.iload 5, 2) := by decide +kernel
theorem dX7_act_13 : decode cX7_act 13 = .ok (.invokevirtual 87, 3) := by decide +kernel
theorem dX7_act_16 : decode cX7_act 16 = .ok (.ifCond .eq 24, 3) := by decide +kernel
theorem dX7_act_19 : decode cX7_act 19 = .ok (.iload_n 3, 1) := by decide +kernel
theorem dX7_act_20 : decode cX7_act 20 = .ok (.bipush 7, 2) := by decide +kernel
theorem dX7_act_22 : decode cX7_act 22 = .ok (.if_icmp .eq 9, 3) := by decide +kernel
theorem dX7_act_25 : decode cX7_act 25 = .ok (.iload_n 3, 1) := by decide +kernel
theorem dX7_act_26 : decode cX7_act 26 = .ok (.bipush 8, 2) := by decide +kernel
theorem dX7_act_28 : decode cX7_act 28 = .ok (.if_icmp .ne 16, 3) := by decide +kernel
theorem dX7_act_31 : decode cX7_act 31 = .ok (.aload_n 0, 1) := by decide +kernel
theorem dX7_act_32 : decode cX7_act 32 = .ok (.iload 4, 2) := by decide +kernel
theorem dX7_act_34 : decode cX7_act 34 = .ok (.invokevirtual 87, 3) := by decide +kernel
theorem dX7_act_37 : decode cX7_act 37 = .ok (.ifCond .ne 7, 3) := by decide +kernel
theorem dX7_act_40 : decode cX7_act 40 = .ok (.iconst 1, 1) := by decide +kernel
theorem dX7_act_41 : decode cX7_act 41 = .ok (.goto 4, 3) := by decide +kernel
theorem dX7_act_44 : decode cX7_act 44 = .ok (.iconst 0, 1) := by decide +kernel
theorem dX7_act_45 : decode cX7_act 45 = .ok (.istore 7, 2) := by decide +kernel
theorem dX7_act_47 : decode cX7_act 47 = .ok (.aload_n 0, 1) := by decide +kernel
theorem dX7_act_48 : decode cX7_act 48 = .ok (.iload_n 1, 1) := by decide +kernel
theorem dX7_act_49 : decode cX7_act 49 = .ok (.invokevirtual 87, 3) := by decide +kernel
theorem dX7_act_52 : decode cX7_act 52 = .ok (.ifCond .eq 8, 3) := by decide +kernel
theorem dX7_act_55 : decode cX7_act 55 = .ok (.iload 7, 2) := by decide +kernel
theorem dX7_act_57 : decode cX7_act 57 = .ok (.ifCond .eq 6, 3) := by decide +kernel
theorem dX7_act_60 : decode cX7_act 60 = .ok (.bipush (-2), 2) := by decide +kernel
theorem dX7_act_62 : decode cX7_act 62 = .ok (.ireturn, 1) := by decide +kernel
theorem dX7_act_63 : decode cX7_act 63 = .ok (.iload_n 2, 1) := by decide +kernel
theorem dX7_act_64 : decode cX7_act 64 = .ok (.ifCond .lt 31, 3) := by decide +kernel
theorem dX7_act_67 : decode cX7_act 67 = .ok (.iload_n 2, 1) := by decide +kernel
theorem dX7_act_68 : decode cX7_act 68 = .ok (.iconst 3, 1) := by decide +kernel
theorem dX7_act_69 : decode cX7_act 69 = .ok (.if_icmp .gt 26, 3) := by decide +kernel
theorem dX7_act_72 : decode cX7_act 72 = .ok (.iload_n 3, 1) := by decide +kernel
theorem dX7_act_73 : decode cX7_act 73 = .ok (.ifCond .lt 22, 3) := by decide +kernel
theorem dX7_act_76 : decode cX7_act 76 = .ok (.iload_n 3, 1) := by decide +kernel
theorem dX7_act_77 : decode cX7_act 77 = .ok (.bipush 12, 2) := by decide +kernel
theorem dX7_act_79 : decode cX7_act 79 = .ok (.if_icmp .gt 16, 3) := by decide +kernel
theorem dX7_act_82 : decode cX7_act 82 = .ok (.iload_n 3, 1) := by decide +kernel
theorem dX7_act_83 : decode cX7_act 83 = .ok (.iload 4, 2) := by decide +kernel
theorem dX7_act_85 : decode cX7_act 85 = .ok (.iload 5, 2) := by decide +kernel
theorem dX7_act_87 : decode cX7_act 87 = .ok (.iload 6, 2) := by decide +kernel
theorem dX7_act_89 : decode cX7_act 89 = .ok (.invokestatic 98, 3) := by decide +kernel
theorem dX7_act_92 : decode cX7_act 92 = .ok (.ifCond .ne 6, 3) := by decide +kernel
theorem dX7_act_95 : decode cX7_act 95 = .ok (.bipush (-3), 2) := by decide +kernel
theorem dX7_act_97 : decode cX7_act 97 = .ok (.ireturn, 1) := by decide +kernel
theorem dX7_act_98 : decode cX7_act 98 = .ok (.iload_n 3, 1) := by decide +kernel
theorem dX7_act_99 : decode cX7_act 99 = .ok (.bipush 8, 2) := by decide +kernel
theorem dX7_act_101 : decode cX7_act 101 = .ok (.if_icmp .ne 13, 3) := by decide +kernel
theorem dX7_act_104 : decode cX7_act 104 = .ok (.aload_n 0, 1) := by decide +kernel
theorem dX7_act_105 : decode cX7_act 105 = .ok (.getfield 7, 3) := by decide +kernel
theorem dX7_act_108 : decode cX7_act 108 = .ok (.iload 4, 2) := by decide +kernel
theorem dX7_act_110 : decode cX7_act 110 = .ok (.baload, 1) := by decide +kernel
theorem dX7_act_111 : decode cX7_act 111 = .ok (.ifCond .ne 12, 3) := by decide +kernel
theorem dX7_act_114 : decode cX7_act 114 = .ok (.aload_n 0, 1) := by decide +kernel
theorem dX7_act_115 : decode cX7_act 115 = .ok (.getfield 44, 3) := by decide +kernel
theorem dX7_act_118 : decode cX7_act 118 = .ok (.iload_n 1, 1) := by decide +kernel
theorem dX7_act_119 : decode cX7_act 119 = .ok (.iaload, 1) := by decide +kernel
theorem dX7_act_120 : decode cX7_act 120 = .ok (.ifCond .eq 6, 3) := by decide +kernel
theorem dX7_act_123 : decode cX7_act 123 = .ok (.bipush (-4), 2) := by decide +kernel
theorem dX7_act_125 : decode cX7_act 125 = .ok (.ireturn, 1) := by decide +kernel
theorem dX7_act_126 : decode cX7_act 126 = .ok (.iconst 4, 1) := by decide +kernel
theorem dX7_act_127 : decode cX7_act 127 = .ok (.iload_n 1, 1) := by decide +kernel
theorem dX7_act_128 : decode cX7_act 128 = .ok (.imul, 1) := by decide +kernel
theorem dX7_act_129 : decode cX7_act 129 = .ok (.iload_n 2, 1) := by decide +kernel
theorem dX7_act_130 : decode cX7_act 130 = .ok (.iadd, 1) := by decide +kernel
theorem dX7_act_131 : decode cX7_act 131 = .ok (.istore 8, 2) := by decide +kernel
theorem dX7_act_133 : decode cX7_act 133 = .ok (.aload_n 0, 1) := by decide +kernel
theorem dX7_act_134 : decode cX7_act 134 = .ok (.getfield 38, 3) := by decide +kernel
theorem dX7_act_137 : decode cX7_act 137 = .ok (.iload 8, 2) := by decide +kernel
theorem dX7_act_139 : decode cX7_act 139 = .ok (.iaload, 1) := by decide +kernel
theorem dX7_act_140 : decode cX7_act 140 = .ok (.bipush 10, 2) := by decide +kernel
theorem dX7_act_142 : decode cX7_act 142 = .ok (.if_icmp .ne 6, 3) := by decide +kernel
theorem dX7_act_145 : decode cX7_act 145 = .ok (.bipush (-5), 2) := by decide +kernel
theorem dX7_act_147 : decode cX7_act 147 = .ok (.ireturn, 1) := by decide +kernel
theorem dX7_act_148 : decode cX7_act 148 = .ok (.bipush 40, 2) := by decide +kernel
theorem dX7_act_150 : decode cX7_act 150 = .ok (.iload 8, 2) := by decide +kernel
theorem dX7_act_152 : decode cX7_act 152 = .ok (.imul, 1) := by decide +kernel
theorem dX7_act_153 : decode cX7_act 153 = .ok (.iconst 4, 1) := by decide +kernel
theorem dX7_act_154 : decode cX7_act 154 = .ok (.aload_n 0, 1) := by decide +kernel
theorem dX7_act_155 : decode cX7_act 155 = .ok (.getfield 38, 3) := by decide +kernel
theorem dX7_act_158 : decode cX7_act 158 = .ok (.iload 8, 2) := by decide +kernel
theorem dX7_act_160 : decode cX7_act 160 = .ok (.iaload, 1) := by decide +kernel
theorem dX7_act_161 : decode cX7_act 161 = .ok (.imul, 1) := by decide +kernel
theorem dX7_act_162 : decode cX7_act 162 = .ok (.iadd, 1) := by decide +kernel
theorem dX7_act_163 : decode cX7_act 163 = .ok (.istore 9, 2) := by decide +kernel
theorem dX7_act_165 : decode cX7_act 165 = .ok (.aload_n 0, 1) := by decide +kernel
theorem dX7_act_166 : decode cX7_act 166 = .ok (.getfield 41, 3) := by decide +kernel
theorem dX7_act_169 : decode cX7_act 169 = .ok (.iload 9, 2) := by decide +kernel
theorem dX7_act_171 : decode cX7_act 171 = .ok (.iload_n 3, 1) := by decide +kernel
theorem dX7_act_172 : decode cX7_act 172 = .ok (.iastore, 1) := by decide +kernel
theorem dX7_act_173 : decode cX7_act 173 = .ok (.aload_n 0, 1) := by decide +kernel
theorem dX7_act_174 : decode cX7_act 174 = .ok (.getfield 41, 3) := by decide +kernel
theorem dX7_act_177 : decode cX7_act 177 = .ok (.iload 9, 2) := by decide +kernel
theorem dX7_act_179 : decode cX7_act 179 = .ok (.iconst 1, 1) := by decide +kernel
theorem dX7_act_180 : decode cX7_act 180 = .ok (.iadd, 1) := by decide +kernel
theorem dX7_act_181 : decode cX7_act 181 = .ok (.iload 4, 2) := by decide +kernel
theorem dX7_act_183 : decode cX7_act 183 = .ok (.iastore, 1) := by decide +kernel
theorem dX7_act_184 : decode cX7_act 184 = .ok (.aload_n 0, 1) := by decide +kernel
theorem dX7_act_185 : decode cX7_act 185 = .ok (.getfield 41, 3) := by decide +kernel
theorem dX7_act_188 : decode cX7_act 188 = .ok (.iload 9, 2) := by decide +kernel
theorem dX7_act_190 : decode cX7_act 190 = .ok (.iconst 2, 1) := by decide +kernel
theorem dX7_act_191 : decode cX7_act 191 = .ok (.iadd, 1) := by decide +kernel
theorem dX7_act_192 : decode cX7_act 192 = .ok (.iload 5, 2) := by decide +kernel
theorem dX7_act_194 : decode cX7_act 194 = .ok (.iastore, 1) := by decide +kernel
theorem dX7_act_195 : decode cX7_act 195 = .ok (.aload_n 0, 1) := by decide +kernel
theorem dX7_act_196 : decode cX7_act 196 = .ok (.getfield 41, 3) := by decide +kernel
theorem dX7_act_199 : decode cX7_act 199 = .ok (.iload 9, 2) := by decide +kernel
theorem dX7_act_201 : decode cX7_act 201 = .ok (.iconst 3, 1) := by decide +kernel
theorem dX7_act_202 : decode cX7_act 202 = .ok (.iadd, 1) := by decide +kernel
theorem dX7_act_203 : decode cX7_act 203 = .ok (.iload 6, 2) := by decide +kernel
theorem dX7_act_205 : decode cX7_act 205 = .ok (.iastore, 1) := by decide +kernel
theorem dX7_act_206 : decode cX7_act 206 = .ok (.aload_n 0, 1) := by decide +kernel
theorem dX7_act_207 : decode cX7_act 207 = .ok (.getfield 38, 3) := by decide +kernel
theorem dX7_act_210 : decode cX7_act 210 = .ok (.iload 8, 2) := by decide +kernel
theorem dX7_act_212 : decode cX7_act 212 = .ok (.dup2, 1) := by decide +kernel
theorem dX7_act_213 : decode cX7_act 213 = .ok (.iaload, 1) := by decide +kernel
theorem dX7_act_214 : decode cX7_act 214 = .ok (.iconst 1, 1) := by decide +kernel
theorem dX7_act_215 : decode cX7_act 215 = .ok (.iadd, 1) := by decide +kernel
theorem dX7_act_216 : decode cX7_act 216 = .ok (.iastore, 1) := by decide +kernel
theorem dX7_act_217 : decode cX7_act 217 = .ok (.aload_n 0, 1) := by decide +kernel
theorem dX7_act_218 : decode cX7_act 218 = .ok (.getfield 38, 3) := by decide +kernel
theorem dX7_act_221 : decode cX7_act 221 = .ok (.iload 8, 2) := by decide +kernel
theorem dX7_act_223 : decode cX7_act 223 = .ok (.iaload, 1) := by decide +kernel
theorem dX7_act_224 : decode cX7_act 224 = .ok (.ireturn, 1) := by decide +kernel
theorem dX7_tell_0 : decode cX7_tell 0 = .ok (.aload_n 0, 1) := by decide +kernel
theorem dX7_tell_1 : decode cX7_tell 1 = .ok (.getfield 102, 3) := by decide +kernel
theorem dX7_tell_4 : decode cX7_tell 4 = .ok (.bipush 60, 2) := by decide +kernel
theorem dX7_tell_6 : decode cX7_tell 6 = .ok (.if_icmp .ge 33, 3) := by decide +kernel
theorem dX7_tell_9 : decode cX7_tell 9 = .ok (.aload_n 0, 1) := by decide +kernel
theorem dX7_tell_10 : decode cX7_tell 10 = .ok (.getfield 47, 3) := by decide +kernel
theorem dX7_tell_13 : decode cX7_tell 13 = .ok (.aload_n 0, 1) := by decide +kernel
theorem dX7_tell_14 : decode cX7_tell 14 = .ok (.getfield 102, 3) := by decide +kernel
theorem dX7_tell_17 : decode cX7_tell 17 = .ok (.iload_n 1, 1) := by decide +kernel
theorem dX7_tell_18 : decode cX7_tell 18 = .ok (.iastore, 1) := by decide +kernel
theorem dX7_tell_19 : decode cX7_tell 19 = .ok (.aload_n 0, 1) := by decide +kernel
theorem dX7_tell_20 : decode cX7_tell 20 = .ok (.getfield 50, 3) := by decide +kernel
theorem dX7_tell_23 : decode cX7_tell 23 = .ok (.aload_n 0, 1) := by decide +kernel
theorem dX7_tell_24 : decode cX7_tell 24 = .ok (.getfield 102, 3) := by decide +kernel
theorem dX7_tell_27 : decode cX7_tell 27 = .ok (.iload_n 2, 1) := by decide +kernel
theorem dX7_tell_28 : decode cX7_tell 28 = .ok (.iastore, 1) := by decide +kernel
theorem dX7_tell_29 : decode cX7_tell 29 = .ok (.aload_n 0, 1) := by decide +kernel
theorem dX7_tell_30 : decode cX7_tell 30 = .ok (.dup, 1) := by decide +kernel
theorem dX7_tell_31 : decode cX7_tell 31 = .ok (.getfield 102, 3) := by decide +kernel
theorem dX7_tell_34 : decode cX7_tell 34 = .ok (.iconst 1, 1) := by decide +kernel
theorem dX7_tell_35 : decode cX7_tell 35 = .ok (.iadd, 1) := by decide +kernel
theorem dX7_tell_36 : decode cX7_tell 36 = .ok (.putfield 102, 3) := by decide +kernel
theorem dX7_tell_39 : decode cX7_tell 39 = .ok (.return_, 1) := by decide +kernel
theorem dX7_arise_0 : decode cX7_arise 0 = .ok (.aload_n 0, 1) := by decide +kernel
theorem dX7_arise_1 : decode cX7_arise 1 = .ok (.dup, 1) := by decide +kernel
theorem dX7_arise_2 : decode cX7_arise 2 = .ok (.getfield 105, 3) := by decide +kernel
theorem dX7_arise_5 : decode cX7_arise 5 = .ok (.iload_n 1, 1) := by decide +kernel
theorem dX7_arise_6 : decode cX7_arise 6 = .ok (.bipush 10, 2) := by decide +kernel
theorem dX7_arise_8 : decode cX7_arise 8 = .ok (.if_icmp .ge 7, 3) := by decide +kernel
theorem dX7_arise_11 : decode cX7_arise 11 = .ok (.iconst 1, 1) := by decide +kernel
theorem dX7_arise_12 : decode cX7_arise 12 = .ok (.goto 4, 3) := by decide +kernel
theorem dX7_arise_15 : decode cX7_arise 15 = .ok (.iconst 0, 1) := by decide +kernel
theorem dX7_arise_16 : decode cX7_arise 16 = .ok (.iadd, 1) := by decide +kernel
theorem dX7_arise_17 : decode cX7_arise 17 = .ok (.putfield 105, 3) := by decide +kernel
theorem dX7_arise_20 : decode cX7_arise 20 = .ok (.iload_n 1, 1) := by decide +kernel
theorem dX7_arise_21 : decode cX7_arise 21 = .ok (.ireturn, 1) := by decide +kernel
theorem dX7_push_0 : decode cX7_push 0 = .ok (.aload_n 0, 1) := by decide +kernel
theorem dX7_push_1 : decode cX7_push 1 = .ok (.getfield 57, 3) := by decide +kernel
theorem dX7_push_4 : decode cX7_push 4 = .ok (.aload_n 0, 1) := by decide +kernel
theorem dX7_push_5 : decode cX7_push 5 = .ok (.getfield 108, 3) := by decide +kernel
theorem dX7_push_8 : decode cX7_push 8 = .ok (.iload_n 1, 1) := by decide +kernel
theorem dX7_push_9 : decode cX7_push 9 = .ok (.iastore, 1) := by decide +kernel
theorem dX7_push_10 : decode cX7_push 10 = .ok (.aload_n 0, 1) := by decide +kernel
theorem dX7_push_11 : decode cX7_push 11 = .ok (.getfield 60, 3) := by decide +kernel
theorem dX7_push_14 : decode cX7_push 14 = .ok (.aload_n 0, 1) := by decide +kernel
theorem dX7_push_15 : decode cX7_push 15 = .ok (.getfield 108, 3) := by decide +kernel
theorem dX7_push_18 : decode cX7_push 18 = .ok (.iload_n 2, 1) := by decide +kernel
theorem dX7_push_19 : decode cX7_push 19 = .ok (.iastore, 1) := by decide +kernel
theorem dX7_push_20 : decode cX7_push 20 = .ok (.aload_n 0, 1) := by decide +kernel
theorem dX7_push_21 : decode cX7_push 21 = .ok (.getfield 63, 3) := by decide +kernel
theorem dX7_push_24 : decode cX7_push 24 = .ok (.aload_n 0, 1) := by decide +kernel
theorem dX7_push_25 : decode cX7_push 25 = .ok (.getfield 108, 3) := by decide +kernel
theorem dX7_push_28 : decode cX7_push 28 = .ok (.iload_n 3, 1) := by decide +kernel
theorem dX7_push_29 : decode cX7_push 29 = .ok (.iastore, 1) := by decide +kernel
theorem dX7_push_30 : decode cX7_push 30 = .ok (.aload_n 0, 1) := by decide +kernel
theorem dX7_push_31 : decode cX7_push 31 = .ok (.getfield 66, 3) := by decide +kernel
theorem dX7_push_34 : decode cX7_push 34 = .ok (.aload_n 0, 1) := by decide +kernel
theorem dX7_push_35 : decode cX7_push 35 = .ok (.getfield 108, 3) := by decide +kernel
theorem dX7_push_38 : decode cX7_push 38 = .ok (.iconst 0, 1) := by decide +kernel
theorem dX7_push_39 : decode cX7_push 39 = .ok (.iastore, 1) := by decide +kernel
theorem dX7_push_40 : decode cX7_push 40 = .ok (.aload_n 0, 1) := by decide +kernel
theorem dX7_push_41 : decode cX7_push 41 = .ok (.getfield 69, 3) := by decide +kernel
theorem dX7_push_44 : decode cX7_push 44 = .ok (.aload_n 0, 1) := by decide +kernel
theorem dX7_push_45 : decode cX7_push 45 = .ok (.getfield 108, 3) := by decide +kernel
theorem dX7_push_48 : decode cX7_push 48 = .ok (.iconst 0, 1) := by decide +kernel
theorem dX7_push_49 : decode cX7_push 49 = .ok (.iastore, 1) := by decide +kernel
theorem dX7_push_50 : decode cX7_push 50 = .ok (.aload_n 0, 1) := by decide +kernel
theorem dX7_push_51 : decode cX7_push 51 = .ok (.getfield 72, 3) := by decide +kernel
theorem dX7_push_54 : decode cX7_push 54 = .ok (.aload_n 0, 1) := by decide +kernel
theorem dX7_push_55 : decode cX7_push 55 = .ok (.getfield 108, 3) := by decide +kernel
theorem dX7_push_58 : decode cX7_push 58 = .ok (.iconst 0, 1) := by decide +kernel
theorem dX7_push_59 : decode cX7_push 59 = .ok (.iastore, 1) := by decide +kernel
theorem dX7_push_60 : decode cX7_push 60 = .ok (.aload_n 0, 1) := by decide +kernel
theorem dX7_push_61 : decode cX7_push 61 = .ok (.dup, 1) := by decide +kernel
theorem dX7_push_62 : decode cX7_push 62 = .ok (.getfield 108, 3) := by decide +kernel
theorem dX7_push_65 : decode cX7_push 65 = .ok (.iconst 1, 1) := by decide +kernel
theorem dX7_push_66 : decode cX7_push 66 = .ok (.iadd, 1) := by decide +kernel
theorem dX7_push_67 : decode cX7_push 67 = .ok (.putfield 108, 3) := by decide +kernel
theorem dX7_push_70 : decode cX7_push 70 = .ok (.return_, 1) := by decide +kernel
theorem dX7_want_0 : decode cX7_want 0 = .ok (.aload_n 0, 1) := by decide +kernel
theorem dX7_want_1 : decode cX7_want 1 = .ok (.getfield 44, 3) := by decide +kernel
theorem dX7_want_4 : decode cX7_want 4 = .ok (.iload_n 1, 1) := by decide +kernel
theorem dX7_want_5 : decode cX7_want 5 = .ok (.iaload, 1) := by decide +kernel
theorem dX7_want_6 : decode cX7_want 6 = .ok (.iconst 3, 1) := by decide +kernel
theorem dX7_want_7 : decode cX7_want 7 = .ok (.if_icmp .ne 16, 3) := by decide +kernel
theorem dX7_want_10 : decode cX7_want 10 = .ok (.aload_n 0, 1) := by decide +kernel
theorem dX7_want_11 : decode cX7_want 11 = .ok (.aload_n 0, 1) := by decide +kernel
theorem dX7_want_12 : decode cX7_want 12 = .ok (.bipush 8, 2) := by decide +kernel
theorem dX7_want_14 : decode cX7_want 14 = .ok (.invokevirtual 111, 3) := by decide +kernel
theorem dX7_want_17 : decode cX7_want 17 = .ok (.putfield 115, 3) := by decide +kernel
theorem dX7_want_20 : decode cX7_want 20 = .ok (.goto 32, 3) := by decide +kernel
theorem dX7_want_23 : decode cX7_want 23 = .ok (.aload_n 0, 1) := by decide +kernel
theorem dX7_want_24 : decode cX7_want 24 = .ok (.getfield 44, 3) := by decide +kernel
theorem dX7_want_27 : decode cX7_want 27 = .ok (.iload_n 1, 1) := by decide +kernel
theorem dX7_want_28 : decode cX7_want 28 = .ok (.iaload, 1) := by decide +kernel
theorem dX7_want_29 : decode cX7_want 29 = .ok (.ifCond .ne 23, 3) := by decide +kernel
theorem dX7_want_32 : decode cX7_want 32 = .ok (.aload_n 0, 1) := by decide +kernel
theorem dX7_want_33 : decode cX7_want 33 = .ok (.getfield 44, 3) := by decide +kernel
theorem dX7_want_36 : decode cX7_want 36 = .ok (.iload_n 1, 1) := by decide +kernel
theorem dX7_want_37 : decode cX7_want 37 = .ok (.iconst 1, 1) := by decide +kernel
theorem dX7_want_38 : decode cX7_want 38 = .ok (.iastore, 1) := by decide +kernel
theorem dX7_want_39 : decode cX7_want 39 = .ok (.aload_n 0, 1) := by decide +kernel
theorem dX7_want_40 : decode cX7_want 40 = .ok (.iconst 0, 1) := by decide +kernel
theorem dX7_want_41 : decode cX7_want 41 = .ok (.iload_n 1, 1) := by decide +kernel
theorem dX7_want_42 : decode cX7_want 42 = .ok (.invokevirtual 118, 3) := by decide +kernel
theorem dX7_want_45 : decode cX7_want 45 = .ok (.aload_n 0, 1) := by decide +kernel
theorem dX7_want_46 : decode cX7_want 46 = .ok (.iconst 1, 1) := by decide +kernel
theorem dX7_want_47 : decode cX7_want 47 = .ok (.iload_n 1, 1) := by decide +kernel
theorem dX7_want_48 : decode cX7_want 48 = .ok (.iconst 0, 1) := by decide +kernel
theorem dX7_want_49 : decode cX7_want 49 = .ok (.invokevirtual 122, 3) := by decide +kernel
theorem dX7_want_52 : decode cX7_want 52 = .ok (.return_, 1) := by decide +kernel
theorem dX7_enter_0 : decode cX7_enter 0 = .ok (.aload_n 0, 1) := by decide +kernel
theorem dX7_enter_1 : decode cX7_enter 1 = .ok (.getfield 126, 3) := by decide +kernel
theorem dX7_enter_4 : decode cX7_enter 4 = .ok (.bipush 8, 2) := by decide +kernel
theorem dX7_enter_6 : decode cX7_enter 6 = .ok (.if_icmp .ne 16, 3) := by decide +kernel
theorem dX7_enter_9 : decode cX7_enter 9 = .ok (.aload_n 0, 1) := by decide +kernel
theorem dX7_enter_10 : decode cX7_enter 10 = .ok (.aload_n 0, 1) := by decide +kernel
theorem dX7_enter_11 : decode cX7_enter 11 = .ok (.bipush 9, 2) := by decide +kernel
theorem dX7_enter_13 : decode cX7_enter 13 = .ok (.invokevirtual 111, 3) := by decide +kernel
theorem dX7_enter_16 : decode cX7_enter 16 = .ok (.putfield 115, 3) := by decide +kernel
theorem dX7_enter_19 : decode cX7_enter 19 = .ok (.goto 20, 3) := by decide +kernel
theorem dX7_enter_22 : decode cX7_enter 22 = .ok (.aload_n 0, 1) := by decide +kernel
theorem dX7_enter_23 : decode cX7_enter 23 = .ok (.dup, 1) := by decide +kernel
theorem dX7_enter_24 : decode cX7_enter 24 = .ok (.getfield 126, 3) := by decide +kernel
theorem dX7_enter_27 : decode cX7_enter 27 = .ok (.iconst 1, 1) := by decide +kernel
theorem dX7_enter_28 : decode cX7_enter 28 = .ok (.iadd, 1) := by decide +kernel
theorem dX7_enter_29 : decode cX7_enter 29 = .ok (.putfield 126, 3) := by decide +kernel
theorem dX7_enter_32 : decode cX7_enter 32 = .ok (.aload_n 0, 1) := by decide +kernel
theorem dX7_enter_33 : decode cX7_enter 33 = .ok (.iconst 0, 1) := by decide +kernel
theorem dX7_enter_34 : decode cX7_enter 34 = .ok (.iload_n 1, 1) := by decide +kernel
theorem dX7_enter_35 : decode cX7_enter 35 = .ok (.iload_n 2, 1) := by decide +kernel
theorem dX7_enter_36 : decode cX7_enter 36 = .ok (.invokevirtual 122, 3) := by decide +kernel
theorem dX7_enter_39 : decode cX7_enter 39 = .ok (.return_, 1) := by decide +kernel
theorem dX7_step_0 : decode cX7_step 0 = .ok (.aload_n 0, 1) := by decide +kernel
theorem dX7_step_1 : decode cX7_step 1 = .ok (.getfield 108, 3) := by decide +kernel
theorem dX7_step_4 : decode cX7_step 4 = .ok (.iconst 1, 1) := by decide +kernel
theorem dX7_step_5 : decode cX7_step 5 = .ok (.isub, 1) := by decide +kernel
theorem dX7_step_6 : decode cX7_step 6 = .ok (.istore_n 1, 1) := by decide +kernel
theorem dX7_step_7 : decode cX7_step 7 = .ok (.aload_n 0, 1) := by decide +kernel
theorem dX7_step_8 : decode cX7_step 8 = .ok (.getfield 60, 3) := by decide +kernel
theorem dX7_step_11 : decode cX7_step 11 = .ok (.iload_n 1, 1) := by decide +kernel
theorem dX7_step_12 : decode cX7_step 12 = .ok (.iaload, 1) := by decide +kernel
theorem dX7_step_13 : decode cX7_step 13 = .ok (.istore_n 2, 1) := by decide +kernel
theorem dX7_step_14 : decode cX7_step 14 = .ok (.aload_n 0, 1) := by decide +kernel
theorem dX7_step_15 : decode cX7_step 15 = .ok (.getfield 57, 3) := by decide +kernel
theorem dX7_step_18 : decode cX7_step 18 = .ok (.iload_n 1, 1) := by decide +kernel
theorem dX7_step_19 : decode cX7_step 19 = .ok (.iaload, 1) := by decide +kernel
theorem dX7_step_20 : decode cX7_step 20 = .ok (.tableswitch 172 0 2 #[28, 36, 163], 28) := by decide +kernel
theorem dX7_step_48 : decode cX7_step 48 = .ok (.aload_n 0, 1) := by decide +kernel
theorem dX7_step_49 : decode cX7_step 49 = .ok (.iload_n 1, 1) := by decide +kernel
theorem dX7_step_50 : decode cX7_step 50 = .ok (.invokevirtual 129, 3) := by decide +kernel
theorem dX7_step_53 : decode cX7_step 53 = .ok (.goto 201, 3) := by decide +kernel
theorem dX7_step_56 : decode cX7_step 56 = .ok (.aload_n 0, 1) := by decide +kernel
theorem dX7_step_57 : decode cX7_step 57 = .ok (.getfield 69, 3) := by decide +kernel
theorem dX7_step_60 : decode cX7_step 60 = .ok (.iload_n 1, 1) := by decide +kernel
theorem dX7_step_61 : decode cX7_step 61 = .ok (.dup2, 1) := by decide +kernel
theorem dX7_step_62 : decode cX7_step 62 = .ok (.iaload, 1) := by decide +kernel
theorem dX7_step_63 : decode cX7_step 63 = .ok (.iconst 1, 1) := by decide +kernel
theorem dX7_step_64 : decode cX7_step 64 = .ok (.iadd, 1) := by decide +kernel
theorem dX7_step_65 : decode cX7_step 65 = .ok (.iastore, 1) := by decide +kernel
theorem dX7_step_66 : decode cX7_step 66 = .ok (.aload_n 0, 1) := by decide +kernel
theorem dX7_step_67 : decode cX7_step 67 = .ok (.getfield 69, 3) := by decide +kernel
theorem dX7_step_70 : decode cX7_step 70 = .ok (.iload_n 1, 1) := by decide +kernel
theorem dX7_step_71 : decode cX7_step 71 = .ok (.iaload, 1) := by decide +kernel
theorem dX7_step_72 : decode cX7_step 72 = .ok (.iconst 1, 1) := by decide +kernel
theorem dX7_step_73 : decode cX7_step 73 = .ok (.if_icmp .ne 26, 3) := by decide +kernel
theorem dX7_step_76 : decode cX7_step 76 = .ok (.aload_n 0, 1) := by decide +kernel
theorem dX7_step_77 : decode cX7_step 77 = .ok (.getfield 16, 3) := by decide +kernel
theorem dX7_step_80 : decode cX7_step 80 = .ok (.iload_n 2, 1) := by decide +kernel
theorem dX7_step_81 : decode cX7_step 81 = .ok (.iaload, 1) := by decide +kernel
theorem dX7_step_82 : decode cX7_step 82 = .ok (.iconst (-1), 1) := by decide +kernel
theorem dX7_step_83 : decode cX7_step 83 = .ok (.if_icmp .eq 16, 3) := by decide +kernel
theorem dX7_step_86 : decode cX7_step 86 = .ok (.aload_n 0, 1) := by decide +kernel
theorem dX7_step_87 : decode cX7_step 87 = .ok (.aload_n 0, 1) := by decide +kernel
theorem dX7_step_88 : decode cX7_step 88 = .ok (.getfield 16, 3) := by decide +kernel
theorem dX7_step_91 : decode cX7_step 91 = .ok (.iload_n 2, 1) := by decide +kernel
theorem dX7_step_92 : decode cX7_step 92 = .ok (.iaload, 1) := by decide +kernel
theorem dX7_step_93 : decode cX7_step 93 = .ok (.invokevirtual 133, 3) := by decide +kernel
theorem dX7_step_96 : decode cX7_step 96 = .ok (.goto 158, 3) := by decide +kernel
theorem dX7_step_99 : decode cX7_step 99 = .ok (.aload_n 0, 1) := by decide +kernel
theorem dX7_step_100 : decode cX7_step 100 = .ok (.getfield 69, 3) := by decide +kernel
theorem dX7_step_103 : decode cX7_step 103 = .ok (.iload_n 1, 1) := by decide +kernel
theorem dX7_step_104 : decode cX7_step 104 = .ok (.iaload, 1) := by decide +kernel
theorem dX7_step_105 : decode cX7_step 105 = .ok (.iconst 2, 1) := by decide +kernel
theorem dX7_step_106 : decode cX7_step 106 = .ok (.if_icmp .ne 22, 3) := by decide +kernel
theorem dX7_step_109 : decode cX7_step 109 = .ok (.aload_n 0, 1) := by decide +kernel
theorem dX7_step_110 : decode cX7_step 110 = .ok (.getfield 7, 3) := by decide +kernel
theorem dX7_step_113 : decode cX7_step 113 = .ok (.iload_n 2, 1) := by decide +kernel
theorem dX7_step_114 : decode cX7_step 114 = .ok (.baload, 1) := by decide +kernel
theorem dX7_step_115 : decode cX7_step 115 = .ok (.ifCond .ne 13, 3) := by decide +kernel
theorem dX7_step_118 : decode cX7_step 118 = .ok (.aload_n 0, 1) := by decide +kernel
