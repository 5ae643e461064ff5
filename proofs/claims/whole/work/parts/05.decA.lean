theorem dX0_init_0 : decode cX0_init 0 = .ok (.aload_n 0, 1) := by decide +kernel
theorem dX0_init_1 : decode cX0_init 1 = .ok (.invokespecial 3, 3) := by decide +kernel
theorem dX0_init_4 : decode cX0_init 4 = .ok (.aload_n 0, 1) := by decide +kernel
theorem dX0_init_5 : decode cX0_init 5 = .ok (.iload_n 1, 1) := by decide +kernel
theorem dX0_init_6 : decode cX0_init 6 = .ok (.putfield 9, 3) := by decide +kernel
theorem dX0_init_9 : decode cX0_init 9 = .ok (.aload_n 0, 1) := by decide +kernel
theorem dX0_init_10 : decode cX0_init 10 = .ok (.aload_n 2, 1) := by decide +kernel
theorem dX0_init_11 : decode cX0_init 11 = .ok (.putfield 15, 3) := by decide +kernel
theorem dX0_init_14 : decode cX0_init 14 = .ok (.aload_n 0, 1) := by decide +kernel
theorem dX0_init_15 : decode cX0_init 15 = .ok (.iload_n 3, 1) := by decide +kernel
theorem dX0_init_16 : decode cX0_init 16 = .ok (.putfield 19, 3) := by decide +kernel
theorem dX0_init_19 : decode cX0_init 19 = .ok (.aload_n 0, 1) := by decide +kernel
theorem dX0_init_20 : decode cX0_init 20 = .ok (.iload 4, 2) := by decide +kernel
theorem dX0_init_22 : decode cX0_init 22 = .ok (.putfield 22, 3) := by decide +kernel
theorem dX0_init_25 : decode cX0_init 25 = .ok (.aload_n 0, 1) := by decide +kernel
theorem dX0_init_26 : decode cX0_init 26 = .ok (.iload 5, 2) := by decide +kernel
theorem dX0_init_28 : decode cX0_init 28 = .ok (.putfield 25, 3) := by decide +kernel
theorem dX0_init_31 : decode cX0_init 31 = .ok (.aload_n 0, 1) := by decide +kernel
theorem dX0_init_32 : decode cX0_init 32 = .ok (.iload 6, 2) := by decide +kernel
theorem dX0_init_34 : decode cX0_init 34 = .ok (.putfield 28, 3) := by decide +kernel
theorem dX0_init_37 : decode cX0_init 37 = .ok (.return_, 1) := by decide +kernel
theorem dX0_numbersFit_0 : decode cX0_numbersFit 0 = .ok (.iload_n 0, 1) := by decide +kernel
theorem dX0_numbersFit_1 : decode cX0_numbersFit 1 = .ok (.tableswitch 162 0 12 #[67, 72, 72, 72, 67, 92, 92, 112, 160, 117, 160, 132, 160], 67) := by decide +kernel
theorem dX0_numbersFit_68 : decode cX0_numbersFit 68 = .ok (.iload_n 1, 1) := by decide +kernel
theorem dX0_numbersFit_69 : decode cX0_numbersFit 69 = .ok (.invokestatic 31, 3) := by decide +kernel
theorem dX0_numbersFit_72 : decode cX0_numbersFit 72 = .ok (.ireturn, 1) := by decide +kernel
theorem dX0_numbersFit_73 : decode cX0_numbersFit 73 = .ok (.iload_n 1, 1) := by decide +kernel
theorem dX0_numbersFit_74 : decode cX0_numbersFit 74 = .ok (.invokestatic 31, 3) := by decide +kernel
theorem dX0_numbersFit_77 : decode cX0_numbersFit 77 = .ok (.ifCond .eq 14, 3) := by decide +kernel
theorem dX0_numbersFit_80 : decode cX0_numbersFit 80 = .ok (.iload_n 3, 1) := by decide +kernel
theorem dX0_numbersFit_81 : decode cX0_numbersFit 81 = .ok (.invokestatic 31, 3) := by decide +kernel
theorem dX0_numbersFit_84 : decode cX0_numbersFit 84 = .ok (.ifCond .eq 7, 3) := by decide +kernel
theorem dX0_numbersFit_87 : decode cX0_numbersFit 87 = .ok (.iconst 1, 1) := by decide +kernel
theorem dX0_numbersFit_88 : decode cX0_numbersFit 88 = .ok (.goto 4, 3) := by decide +kernel
theorem dX0_numbersFit_91 : decode cX0_numbersFit 91 = .ok (.iconst 0, 1) := by decide +kernel
theorem dX0_numbersFit_92 : decode cX0_numbersFit 92 = .ok (.ireturn, 1) := by decide +kernel
theorem dX0_numbersFit_93 : decode cX0_numbersFit 93 = .ok (.iload_n 1, 1) := by decide +kernel
theorem dX0_numbersFit_94 : decode cX0_numbersFit 94 = .ok (.invokestatic 31, 3) := by decide +kernel
theorem dX0_numbersFit_97 : decode cX0_numbersFit 97 = .ok (.ifCond .eq 14, 3) := by decide +kernel
theorem dX0_numbersFit_100 : decode cX0_numbersFit 100 = .ok (.iload_n 2, 1) := by decide +kernel
theorem dX0_numbersFit_101 : decode cX0_numbersFit 101 = .ok (.invokestatic 31, 3) := by decide +kernel
theorem dX0_numbersFit_104 : decode cX0_numbersFit 104 = .ok (.ifCond .eq 7, 3) := by decide +kernel
theorem dX0_numbersFit_107 : decode cX0_numbersFit 107 = .ok (.iconst 1, 1) := by decide +kernel
theorem dX0_numbersFit_108 : decode cX0_numbersFit 108 = .ok (.goto 4, 3) := by decide +kernel
theorem dX0_numbersFit_111 : decode cX0_numbersFit 111 = .ok (.iconst 0, 1) := by decide +kernel
theorem dX0_numbersFit_112 : decode cX0_numbersFit 112 = .ok (.ireturn, 1) := by decide +kernel
theorem dX0_numbersFit_113 : decode cX0_numbersFit 113 = .ok (.iload_n 2, 1) := by decide +kernel
theorem dX0_numbersFit_114 : decode cX0_numbersFit 114 = .ok (.invokestatic 37, 3) := by decide +kernel
theorem dX0_numbersFit_117 : decode cX0_numbersFit 117 = .ok (.ireturn, 1) := by decide +kernel
theorem dX0_numbersFit_118 : decode cX0_numbersFit 118 = .ok (.iload_n 1, 1) := by decide +kernel
theorem dX0_numbersFit_119 : decode cX0_numbersFit 119 = .ok (.ifCond .lt 12, 3) := by decide +kernel
theorem dX0_numbersFit_122 : decode cX0_numbersFit 122 = .ok (.iload_n 1, 1) := by decide +kernel
theorem dX0_numbersFit_123 : decode cX0_numbersFit 123 = .ok (.iconst 2, 1) := by decide +kernel
theorem dX0_numbersFit_124 : decode cX0_numbersFit 124 = .ok (.if_icmp .gt 7, 3) := by decide +kernel
theorem dX0_numbersFit_127 : decode cX0_numbersFit 127 = .ok (.iconst 1, 1) := by decide +kernel
theorem dX0_numbersFit_128 : decode cX0_numbersFit 128 = .ok (.goto 4, 3) := by decide +kernel
theorem dX0_numbersFit_131 : decode cX0_numbersFit 131 = .ok (.iconst 0, 1) := by decide +kernel
theorem dX0_numbersFit_132 : decode cX0_numbersFit 132 = .ok (.ireturn, 1) := by decide +kernel
theorem dX0_numbersFit_133 : decode cX0_numbersFit 133 = .ok (.iload_n 1, 1) := by decide +kernel
theorem dX0_numbersFit_134 : decode cX0_numbersFit 134 = .ok (.iconst 1, 1) := by decide +kernel
theorem dX0_numbersFit_135 : decode cX0_numbersFit 135 = .ok (.if_icmp .lt 24, 3) := by decide +kernel
theorem dX0_numbersFit_138 : decode cX0_numbersFit 138 = .ok (.iload_n 1, 1) := by decide +kernel
theorem dX0_numbersFit_139 : decode cX0_numbersFit 139 = .ok (.bipush 9, 2) := by decide +kernel
theorem dX0_numbersFit_141 : decode cX0_numbersFit 141 = .ok (.if_icmp .gt 18, 3) := by decide +kernel
theorem dX0_numbersFit_144 : decode cX0_numbersFit 144 = .ok (.iload_n 2, 1) := by decide +kernel
theorem dX0_numbersFit_145 : decode cX0_numbersFit 145 = .ok (.iconst (-1), 1) := by decide +kernel
theorem dX0_numbersFit_146 : decode cX0_numbersFit 146 = .ok (.if_icmp .lt 13, 3) := by decide +kernel
theorem dX0_numbersFit_149 : decode cX0_numbersFit 149 = .ok (.iload_n 2, 1) := by decide +kernel
theorem dX0_numbersFit_150 : decode cX0_numbersFit 150 = .ok (.bipush 9, 2) := by decide +kernel
theorem dX0_numbersFit_152 : decode cX0_numbersFit 152 = .ok (.if_icmp .gt 7, 3) := by decide +kernel
theorem dX0_numbersFit_155 : decode cX0_numbersFit 155 = .ok (.iconst 1, 1) := by decide +kernel
theorem dX0_numbersFit_156 : decode cX0_numbersFit 156 = .ok (.goto 4, 3) := by decide +kernel
theorem dX0_numbersFit_159 : decode cX0_numbersFit 159 = .ok (.iconst 0, 1) := by decide +kernel
theorem dX0_numbersFit_160 : decode cX0_numbersFit 160 = .ok (.ireturn, 1) := by decide +kernel
theorem dX0_numbersFit_161 : decode cX0_numbersFit 161 = .ok (.iconst 1, 1) := by decide +kernel
theorem dX0_numbersFit_162 : decode cX0_numbersFit 162 = .ok (.ireturn, 1) := by decide +kernel
theorem dX0_numbersFit_163 : decode cX0_numbersFit 163 = .ok (.iconst 0, 1) := by decide +kernel
theorem dX0_numbersFit_164 : decode cX0_numbersFit 164 = .ok (.ireturn, 1) := by decide +kernel
theorem dX0_guards_0 : decode cX0_guards 0 = .ok (.aload_n 0, 1) := by decide +kernel
theorem dX0_guards_1 : decode cX0_guards 1 = .ok (.getfield 9, 3) := by decide +kernel
theorem dX0_guards_4 : decode cX0_guards 4 = .ok (.bipush 11, 2) := by decide +kernel
theorem dX0_guards_6 : decode cX0_guards 6 = .ok (.if_icmp .ne 15, 3) := by decide +kernel
theorem dX0_guards_9 : decode cX0_guards 9 = .ok (.iload_n 1, 1) := by decide +kernel
theorem dX0_guards_10 : decode cX0_guards 10 = .ok (.aload_n 0, 1) := by decide +kernel
theorem dX0_guards_11 : decode cX0_guards 11 = .ok (.getfield 28, 3) := by decide +kernel
theorem dX0_guards_14 : decode cX0_guards 14 = .ok (.if_icmp .gt 7, 3) := by decide +kernel
theorem dX0_guards_17 : decode cX0_guards 17 = .ok (.iconst 1, 1) := by decide +kernel
theorem dX0_guards_18 : decode cX0_guards 18 = .ok (.goto 4, 3) := by decide +kernel
theorem dX0_guards_21 : decode cX0_guards 21 = .ok (.iconst 0, 1) := by decide +kernel
theorem dX0_guards_22 : decode cX0_guards 22 = .ok (.ireturn, 1) := by decide +kernel
theorem dX0_catches_0 : decode cX0_catches 0 = .ok (.aload_n 0, 1) := by decide +kernel
theorem dX0_catches_1 : decode cX0_catches 1 = .ok (.getfield 22, 3) := by decide +kernel
theorem dX0_catches_4 : decode cX0_catches 4 = .ok (.iconst (-1), 1) := by decide +kernel
theorem dX0_catches_5 : decode cX0_catches 5 = .ok (.if_icmp .ne 17, 3) := by decide +kernel
theorem dX0_catches_8 : decode cX0_catches 8 = .ok (.iload_n 1, 1) := by decide +kernel
theorem dX0_catches_9 : decode cX0_catches 9 = .ok (.bipush 10, 2) := by decide +kernel
theorem dX0_catches_11 : decode cX0_catches 11 = .ok (.if_icmp .eq 7, 3) := by decide +kernel
theorem dX0_catches_14 : decode cX0_catches 14 = .ok (.iconst 1, 1) := by decide +kernel
theorem dX0_catches_15 : decode cX0_catches 15 = .ok (.goto 20, 3) := by decide +kernel
theorem dX0_catches_18 : decode cX0_catches 18 = .ok (.iconst 0, 1) := by decide +kernel
theorem dX0_catches_19 : decode cX0_catches 19 = .ok (.goto 16, 3) := by decide +kernel
theorem dX0_catches_22 : decode cX0_catches 22 = .ok (.iload_n 1, 1) := by decide +kernel
theorem dX0_catches_23 : decode cX0_catches 23 = .ok (.aload_n 0, 1) := by decide +kernel
theorem dX0_catches_24 : decode cX0_catches 24 = .ok (.getfield 22, 3) := by decide +kernel
theorem dX0_catches_27 : decode cX0_catches 27 = .ok (.if_icmp .ne 7, 3) := by decide +kernel
theorem dX0_catches_30 : decode cX0_catches 30 = .ok (.iconst 1, 1) := by decide +kernel
theorem dX0_catches_31 : decode cX0_catches 31 = .ok (.goto 4, 3) := by decide +kernel
theorem dX0_catches_34 : decode cX0_catches 34 = .ok (.iconst 0, 1) := by decide +kernel
theorem dX0_catches_35 : decode cX0_catches 35 = .ok (.ireturn, 1) := by decide +kernel
theorem dX0_wants_0 : decode cX0_wants 0 = .ok (.aload_n 0, 1) := by decide +kernel
theorem dX0_wants_1 : decode cX0_wants 1 = .ok (.getfield 9, 3) := by decide +kernel
theorem dX0_wants_4 : decode cX0_wants 4 = .ok (.tableswitch 70 1 8 #[48, 48, 48, 70, 70, 70, 68, 68], 48) := by decide +kernel
theorem dX0_wants_52 : decode cX0_wants 52 = .ok (.aload_n 0, 1) := by decide +kernel
theorem dX0_wants_53 : decode cX0_wants 53 = .ok (.getfield 15, 3) := by decide +kernel
theorem dX0_wants_56 : decode cX0_wants 56 = .ok (.aload_n 0, 1) := by decide +kernel
theorem dX0_wants_57 : decode cX0_wants 57 = .ok (.getfield 25, 3) := by decide +kernel
theorem dX0_wants_60 : decode cX0_wants 60 = .ok (.invokevirtual 42, 3) := by decide +kernel
theorem dX0_wants_63 : decode cX0_wants 63 = .ok (.ifCond .ne 7, 3) := by decide +kernel
theorem dX0_wants_66 : decode cX0_wants 66 = .ok (.iconst 1, 1) := by decide +kernel
theorem dX0_wants_67 : decode cX0_wants 67 = .ok (.goto 4, 3) := by decide +kernel
theorem dX0_wants_70 : decode cX0_wants 70 = .ok (.iconst 0, 1) := by decide +kernel
theorem dX0_wants_71 : decode cX0_wants 71 = .ok (.ireturn, 1) := by decide +kernel
theorem dX0_wants_72 : decode cX0_wants 72 = .ok (.iconst 1, 1) := by decide +kernel
theorem dX0_wants_73 : decode cX0_wants 73 = .ok (.ireturn, 1) := by decide +kernel
theorem dX0_wants_74 : decode cX0_wants 74 = .ok (.iconst 0, 1) := by decide +kernel
theorem dX0_wants_75 : decode cX0_wants 75 = .ok (.ireturn, 1) := by decide +kernel
theorem dX1_init_0 : decode cX1_init 0 = .ok (.aload_n 0, 1) := by decide +kernel
theorem dX1_init_1 : decode cX1_init 1 = .ok (.invokespecial 3, 3) := by decide +kernel
theorem dX1_init_4 : decode cX1_init 4 = .ok (.aload_n 0, 1) := by decide +kernel
theorem dX1_init_5 : decode cX1_init 5 = .ok (.bipush 60, 2) := by decide +kernel
theorem dX1_init_7 : decode cX1_init 7 = .ok (.newarray .int, 2) := by decide +kernel
theorem dX1_init_9 : decode cX1_init 9 = .ok (.putfield 11, 3) := by decide +kernel
theorem dX1_init_12 : decode cX1_init 12 = .ok (.aload_n 0, 1) := by decide +kernel
theorem dX1_init_13 : decode cX1_init 13 = .ok (.bipush 60, 2) := by decide +kernel
theorem dX1_init_15 : decode cX1_init 15 = .ok (.newarray .int, 2) := by decide +kernel
theorem dX1_init_17 : decode cX1_init 17 = .ok (.putfield 15, 3) := by decide +kernel
theorem dX1_init_20 : decode cX1_init 20 = .ok (.aload_n 0, 1) := by decide +kernel
theorem dX1_init_21 : decode cX1_init 21 = .ok (.iconst 0, 1) := by decide +kernel
theorem dX1_init_22 : decode cX1_init 22 = .ok (.putfield 18, 3) := by decide +kernel
theorem dX1_init_25 : decode cX1_init 25 = .ok (.aload_n 0, 1) := by decide +kernel
theorem dX1_init_26 : decode cX1_init 26 = .ok (.iconst 0, 1) := by decide +kernel
theorem dX1_init_27 : decode cX1_init 27 = .ok (.putfield 22, 3) := by decide +kernel
theorem dX1_init_30 : decode cX1_init 30 = .ok (.aload_n 0, 1) := by decide +kernel
theorem dX1_init_31 : decode cX1_init 31 = .ok (.iconst 0, 1) := by decide +kernel
theorem dX1_init_32 : decode cX1_init 32 = .ok (.putfield 25, 3) := by decide +kernel
theorem dX1_init_35 : decode cX1_init 35 = .ok (.aload_n 0, 1) := by decide +kernel
theorem dX1_init_36 : decode cX1_init 36 = .ok (.iconst 0, 1) := by decide +kernel
theorem dX1_init_37 : decode cX1_init 37 = .ok (.putfield 28, 3) := by decide +kernel
theorem dX1_init_40 : decode cX1_init 40 = .ok (.aload_n 0, 1) := by decide +kernel
theorem dX1_init_41 : decode cX1_init 41 = .ok (.iconst (-1), 1) := by decide +kernel
theorem dX1_init_42 : decode cX1_init 42 = .ok (.putfield 31, 3) := by decide +kernel
theorem dX1_init_45 : decode cX1_init 45 = .ok (.aload_n 0, 1) := by decide +kernel
theorem dX1_init_46 : decode cX1_init 46 = .ok (.iconst (-1), 1) := by decide +kernel
theorem dX1_init_47 : decode cX1_init 47 = .ok (.putfield 34, 3) := by decide +kernel
theorem dX1_init_50 : decode cX1_init 50 = .ok (.return_, 1) := by decide +kernel
theorem dX1_clear_0 : decode cX1_clear 0 = .ok (.aload_n 0, 1) := by decide +kernel
theorem dX1_clear_1 : decode cX1_clear 1 = .ok (.iconst 0, 1) := by decide +kernel
theorem dX1_clear_2 : decode cX1_clear 2 = .ok (.putfield 18, 3) := by decide +kernel
theorem dX1_clear_5 : decode cX1_clear 5 = .ok (.aload_n 0, 1) := by decide +kernel
theorem dX1_clear_6 : decode cX1_clear 6 = .ok (.iconst 0, 1) := by decide +kernel
theorem dX1_clear_7 : decode cX1_clear 7 = .ok (.putfield 22, 3) := by decide +kernel
theorem dX1_clear_10 : decode cX1_clear 10 = .ok (.aload_n 0, 1) := by decide +kernel
theorem dX1_clear_11 : decode cX1_clear 11 = .ok (.iconst 0, 1) := by decide +kernel
theorem dX1_clear_12 : decode cX1_clear 12 = .ok (.putfield 25, 3) := by decide +kernel
theorem dX1_clear_15 : decode cX1_clear 15 = .ok (.aload_n 0, 1) := by decide +kernel
theorem dX1_clear_16 : decode cX1_clear 16 = .ok (.iconst 0, 1) := by decide +kernel
theorem dX1_clear_17 : decode cX1_clear 17 = .ok (.putfield 28, 3) := by decide +kernel
theorem dX1_clear_20 : decode cX1_clear 20 = .ok (.aload_n 0, 1) := by decide +kernel
theorem dX1_clear_21 : decode cX1_clear 21 = .ok (.iconst (-1), 1) := by decide +kernel
theorem dX1_clear_22 : decode cX1_clear 22 = .ok (.putfield 31, 3) := by decide +kernel
theorem dX1_clear_25 : decode cX1_clear 25 = .ok (.aload_n 0, 1) := by decide +kernel
theorem dX1_clear_26 : decode cX1_clear 26 = .ok (.iconst (-1), 1) := by decide +kernel
theorem dX1_clear_27 : decode cX1_clear 27 = .ok (.putfield 34, 3) := by decide +kernel
theorem dX1_clear_30 : decode cX1_clear 30 = .ok (.return_, 1) := by decide +kernel
theorem dX1_note_0 : decode cX1_note 0 = .ok (.aload_n 0, 1) := by decide +kernel
theorem dX1_note_1 : decode cX1_note 1 = .ok (.getfield 18, 3) := by decide +kernel
theorem dX1_note_4 : decode cX1_note 4 = .ok (.bipush 60, 2) := by decide +kernel
theorem dX1_note_6 : decode cX1_note 6 = .ok (.if_icmp .ge 33, 3) := by decide +kernel
theorem dX1_note_9 : decode cX1_note 9 = .ok (.aload_n 0, 1) := by decide +kernel
theorem dX1_note_10 : decode cX1_note 10 = .ok (.getfield 11, 3) := by decide +kernel
theorem dX1_note_13 : decode cX1_note 13 = .ok (.aload_n 0, 1) := by decide +kernel
theorem dX1_note_14 : decode cX1_note 14 = .ok (.getfield 18, 3) := by decide +kernel
theorem dX1_note_17 : decode cX1_note 17 = .ok (.iload_n 1, 1) := by decide +kernel
theorem dX1_note_18 : decode cX1_note 18 = .ok (.iastore, 1) := by decide +kernel
theorem dX1_note_19 : decode cX1_note 19 = .ok (.aload_n 0, 1) := by decide +kernel
theorem dX1_note_20 : decode cX1_note 20 = .ok (.getfield 15, 3) := by decide +kernel
theorem dX1_note_23 : decode cX1_note 23 = .ok (.aload_n 0, 1) := by decide +kernel
theorem dX1_note_24 : decode cX1_note 24 = .ok (.getfield 18, 3) := by decide +kernel
theorem dX1_note_27 : decode cX1_note 27 = .ok (.iload_n 2, 1) := by decide +kernel
theorem dX1_note_28 : decode cX1_note 28 = .ok (.iastore, 1) := by decide +kernel
theorem dX1_note_29 : decode cX1_note 29 = .ok (.aload_n 0, 1) := by decide +kernel
theorem dX1_note_30 : decode cX1_note 30 = .ok (.dup, 1) := by decide +kernel
theorem dX1_note_31 : decode cX1_note 31 = .ok (.getfield 18, 3) := by decide +kernel
theorem dX1_note_34 : decode cX1_note 34 = .ok (.iconst 1, 1) := by decide +kernel
theorem dX1_note_35 : decode cX1_note 35 = .ok (.iadd, 1) := by decide +kernel
theorem dX1_note_36 : decode cX1_note 36 = .ok (.putfield 18, 3) := by decide +kernel
theorem dX1_note_39 : decode cX1_note 39 = .ok (.return_, 1) := by decide +kernel
theorem dX2_init_0 : decode cX2_init 0 = .ok (.aload_n 0, 1) := by decide +kernel
theorem dX2_init_1 : decode cX2_init 1 = .ok (.invokespecial 3, 3) := by decide +kernel
theorem dX2_init_4 : decode cX2_init 4 = .ok (.aload_n 0, 1) := by decide +kernel
theorem dX2_init_5 : decode cX2_init 5 = .ok (.iconst 3, 1) := by decide +kernel
theorem dX2_init_6 : decode cX2_init 6 = .ok (.anewarray 9, 3) := by decide +kernel
theorem dX2_init_9 : decode cX2_init 9 = .ok (.putfield 11, 3) := by decide +kernel
theorem dX2_init_12 : decode cX2_init 12 = .ok (.aload_n 0, 1) := by decide +kernel
theorem dX2_init_13 : decode cX2_init 13 = .ok (.iconst 0, 1) := by decide +kernel
theorem dX2_init_14 : decode cX2_init 14 = .ok (.putfield 15, 3) := by decide +kernel
theorem dX2_init_17 : decode cX2_init 17 = .ok (.aload_n 0, 1) := by decide +kernel
theorem dX2_init_18 : decode cX2_init 18 = .ok (.iconst 4, 1) := by decide +kernel
theorem dX2_init_19 : decode cX2_init 19 = .ok (.newarray .int, 2) := by decide +kernel
theorem dX2_init_21 : decode cX2_init 21 = .ok (.putfield 19, 3) := by decide +kernel
theorem dX2_init_24 : decode cX2_init 24 = .ok (.aload_n 0, 1) := by decide +kernel
theorem dX2_init_25 : decode cX2_init 25 = .ok (.iconst 4, 1) := by decide +kernel
theorem dX2_init_26 : decode cX2_init 26 = .ok (.newarray .boolean, 2) := by decide +kernel
theorem dX2_init_28 : decode cX2_init 28 = .ok (.putfield 23, 3) := by decide +kernel
theorem dX2_init_31 : decode cX2_init 31 = .ok (.aload_n 0, 1) := by decide +kernel
theorem dX2_init_32 : decode cX2_init 32 = .ok (.bipush 20, 2) := by decide +kernel
theorem dX2_init_34 : decode cX2_init 34 = .ok (.newarray .int, 2) := by decide +kernel
theorem dX2_init_36 : decode cX2_init 36 = .ok (.putfield 27, 3) := by decide +kernel
theorem dX2_init_39 : decode cX2_init 39 = .ok (.aload_n 0, 1) := by decide +kernel
theorem dX2_init_40 : decode cX2_init 40 = .ok (.iconst (-1), 1) := by decide +kernel
theorem dX2_init_41 : decode cX2_init 41 = .ok (.putfield 30, 3) := by decide +kernel
theorem dX2_init_44 : decode cX2_init 44 = .ok (.aload_n 0, 1) := by decide +kernel
theorem dX2_init_45 : decode cX2_init 45 = .ok (.iconst 4, 1) := by decide +kernel
theorem dX2_init_46 : decode cX2_init 46 = .ok (.anewarray 33, 3) := by decide +kernel
theorem dX2_init_49 : decode cX2_init 49 = .ok (.putfield 35, 3) := by decide +kernel
theorem dX2_init_52 : decode cX2_init 52 = .ok (.aload_n 0, 1) := by decide +kernel
theorem dX2_init_53 : decode cX2_init 53 = .ok (.iconst 0, 1) := by decide +kernel
theorem dX2_init_54 : decode cX2_init 54 = .ok (.putfield 39, 3) := by decide +kernel
theorem dX2_init_57 : decode cX2_init 57 = .ok (.aload_n 0, 1) := by decide +kernel
theorem dX2_init_58 : decode cX2_init 58 = .ok (.iload_n 1, 1) := by decide +kernel
theorem dX2_init_59 : decode cX2_init 59 = .ok (.putfield 42, 3) := by decide +kernel
theorem dX2_init_62 : decode cX2_init 62 = .ok (.aload_n 0, 1) := by decide +kernel
theorem dX2_init_63 : decode cX2_init 63 = .ok (.iload_n 2, 1) := by decide +kernel
theorem dX2_init_64 : decode cX2_init 64 = .ok (.putfield 45, 3) := by decide +kernel
theorem dX2_init_67 : decode cX2_init 67 = .ok (.aload_n 0, 1) := by decide +kernel
theorem dX2_init_68 : decode cX2_init 68 = .ok (.iload_n 3, 1) := by decide +kernel
theorem dX2_init_69 : decode cX2_init 69 = .ok (.putfield 49, 3) := by decide +kernel
theorem dX2_init_72 : decode cX2_init 72 = .ok (.aload_n 0, 1) := by decide +kernel
theorem dX2_init_73 : decode cX2_init 73 = .ok (.aload 4, 2) := by decide +kernel
theorem dX2_init_75 : decode cX2_init 75 = .ok (.putfield 52, 3) := by decide +kernel
theorem dX2_init_78 : decode cX2_init 78 = .ok (.iconst 0, 1) := by decide +kernel
theorem dX2_init_79 : decode cX2_init 79 = .ok (.istore 5, 2) := by decide +kernel
theorem dX2_init_81 : decode cX2_init 81 = .ok (.iload 5, 2) := by decide +kernel
theorem dX2_init_83 : decode cX2_init 83 = .ok (.iconst 4, 1) := by decide +kernel
theorem dX2_init_84 : decode cX2_init 84 = .ok (.if_icmp .ge 29, 3) := by decide +kernel
theorem dX2_init_87 : decode cX2_init 87 = .ok (.aload_n 0, 1) := by decide +kernel
theorem dX2_init_88 : decode cX2_init 88 = .ok (.getfield 35, 3) := by decide +kernel
theorem dX2_init_91 : decode cX2_init 91 = .ok (.iload 5, 2) := by decide +kernel
theorem dX2_init_93 : decode cX2_init 93 = .ok (.new 33, 3) := by decide +kernel
theorem dX2_init_96 : decode cX2_init 96 = .ok (.dup, 1) := by decide +kernel
theorem dX2_init_97 : decode cX2_init 97 = .ok (.iload_n 1, 1) := by decide +kernel
theorem dX2_init_98 : decode cX2_init 98 = .ok (.iconst 4, 1) := by decide +kernel
theorem dX2_init_99 : decode cX2_init 99 = .ok (.imul, 1) := by decide +kernel
theorem dX2_init_100 : decode cX2_init 100 = .ok (.iload 5, 2) := by decide +kernel
theorem dX2_init_102 : decode cX2_init 102 = .ok (.iadd, 1) := by decide +kernel
theorem dX2_init_103 : decode cX2_init 103 = .ok (.invokespecial 56, 3) := by decide +kernel
theorem dX2_init_106 : decode cX2_init 106 = .ok (.aastore, 1) := by decide +kernel
theorem dX2_init_107 : decode cX2_init 107 = .ok (.iinc 5 1, 3) := by decide +kernel
theorem dX2_init_110 : decode cX2_init 110 = .ok (.goto (-29), 3) := by decide +kernel
theorem dX2_init_113 : decode cX2_init 113 = .ok (.return_, 1) := by decide +kernel
theorem dX2_isField_0 : decode cX2_isField 0 = .ok (.iload_n 0, 1) := by decide +kernel
theorem dX2_isField_1 : decode cX2_isField 1 = .ok (.ifCond .lt 12, 3) := by decide +kernel
theorem dX2_isField_4 : decode cX2_isField 4 = .ok (.iload_n 0, 1) := by decide +kernel
theorem dX2_isField_5 : decode cX2_isField 5 = .ok (.iconst 4, 1) := by decide +kernel
theorem dX2_isField_6 : decode cX2_isField 6 = .ok (.if_icmp .ge 7, 3) := by decide +kernel
theorem dX2_isField_9 : decode cX2_isField 9 = .ok (.iconst 1, 1) := by decide +kernel
theorem dX2_isField_10 : decode cX2_isField 10 = .ok (.goto 4, 3) := by decide +kernel
theorem dX2_isField_13 : decode cX2_isField 13 = .ok (.iconst 0, 1) := by decide +kernel
theorem dX2_isField_14 : decode cX2_isField 14 = .ok (.ireturn, 1) := by decide +kernel
theorem dX2_isMethod_0 : decode cX2_isMethod 0 = .ok (.iload_n 0, 1) := by decide +kernel
theorem dX2_isMethod_1 : decode cX2_isMethod 1 = .ok (.ifCond .lt 12, 3) := by decide +kernel
theorem dX2_isMethod_4 : decode cX2_isMethod 4 = .ok (.iload_n 0, 1) := by decide +kernel
theorem dX2_isMethod_5 : decode cX2_isMethod 5 = .ok (.iconst 4, 1) := by decide +kernel
theorem dX2_isMethod_6 : decode cX2_isMethod 6 = .ok (.if_icmp .ge 7, 3) := by decide +kernel
theorem dX2_isMethod_9 : decode cX2_isMethod 9 = .ok (.iconst 1, 1) := by decide +kernel
theorem dX2_isMethod_10 : decode cX2_isMethod 10 = .ok (.goto 4, 3) := by decide +kernel
theorem dX2_isMethod_13 : decode cX2_isMethod 13 = .ok (.iconst 0, 1) := by decide +kernel
theorem dX2_isMethod_14 : decode cX2_isMethod 14 = .ok (.ireturn, 1) := by decide +kernel
theorem dX2_isCallable_0 : decode cX2_isCallable 0 = .ok (.iload_n 0, 1) := by decide +kernel
theorem dX2_isCallable_1 : decode cX2_isCallable 1 = .ok (.iconst 1, 1) := by decide +kernel
theorem dX2_isCallable_2 : decode cX2_isCallable 2 = .ok (.if_icmp .lt 12, 3) := by decide +kernel
theorem dX2_isCallable_5 : decode cX2_isCallable 5 = .ok (.iload_n 0, 1) := by decide +kernel
theorem dX2_isCallable_6 : decode cX2_isCallable 6 = .ok (.iconst 4, 1) := by decide +kernel
theorem dX2_isCallable_7 : decode cX2_isCallable 7 = .ok (.if_icmp .ge 7, 3) := by decide +kernel
theorem dX2_isCallable_10 : decode cX2_isCallable 10 = .ok (.iconst 1, 1) := by decide +kernel
theorem dX2_isCallable_11 : decode cX2_isCallable 11 = .ok (.goto 4, 3) := by decide +kernel
theorem dX2_isCallable_14 : decode cX2_isCallable 14 = .ok (.iconst 0, 1) := by decide +kernel
theorem dX2_isCallable_15 : decode cX2_isCallable 15 = .ok (.ireturn, 1) := by decide +kernel
theorem dX2_bit_0 : decode cX2_bit 0 = .ok (.iconst 1, 1) := by decide +kernel
theorem dX2_bit_1 : decode cX2_bit 1 = .ok (.aload_n 0, 1) := by decide +kernel
theorem dX2_bit_2 : decode cX2_bit 2 = .ok (.getfield 42, 3) := by decide +kernel
theorem dX2_bit_5 : decode cX2_bit 5 = .ok (.ishl, 1) := by decide +kernel
theorem dX2_bit_6 : decode cX2_bit 6 = .ok (.ireturn, 1) := by decide +kernel
theorem dX2_hasFace_0 : decode cX2_hasFace 0 = .ok (.iconst 0, 1) := by decide +kernel
theorem dX2_hasFace_1 : decode cX2_hasFace 1 = .ok (.istore_n 2, 1) := by decide +kernel
theorem dX2_hasFace_2 : decode cX2_hasFace 2 = .ok (.iload_n 2, 1) := by decide +kernel
theorem dX2_hasFace_3 : decode cX2_hasFace 3 = .ok (.aload_n 0, 1) := by decide +kernel
theorem dX2_hasFace_4 : decode cX2_hasFace 4 = .ok (.getfield 15, 3) := by decide +kernel
theorem dX2_hasFace_7 : decode cX2_hasFace 7 = .ok (.if_icmp .ge 24, 3) := by decide +kernel
theorem dX2_hasFace_10 : decode cX2_hasFace 10 = .ok (.aload_n 0, 1) := by decide +kernel
theorem dX2_hasFace_11 : decode cX2_hasFace 11 = .ok (.getfield 11, 3) := by decide +kernel
theorem dX2_hasFace_14 : decode cX2_hasFace 14 = .ok (.iload_n 2, 1) := by decide +kernel
theorem dX2_hasFace_15 : decode cX2_hasFace 15 = .ok (.aaload, 1) := by decide +kernel
theorem dX2_hasFace_16 : decode cX2_hasFace 16 = .ok (.getfield 42, 3) := by decide +kernel
theorem dX2_hasFace_19 : decode cX2_hasFace 19 = .ok (.iload_n 1, 1) := by decide +kernel
theorem dX2_hasFace_20 : decode cX2_hasFace 20 = .ok (.if_icmp .ne 5, 3) := by decide +kernel
theorem dX2_hasFace_23 : decode cX2_hasFace 23 = .ok (.iconst 1, 1) := by decide +kernel
theorem dX2_hasFace_24 : decode cX2_hasFace 24 = .ok (.ireturn, 1) := by decide +kernel
theorem dX2_hasFace_25 : decode cX2_hasFace 25 = .ok (.iinc 2 1, 3) := by decide +kernel
theorem dX2_hasFace_28 : decode cX2_hasFace 28 = .ok (.goto (-26), 3) := by decide +kernel
theorem dX2_hasFace_31 : decode cX2_hasFace 31 = .ok (.iconst 0, 1) := by decide +kernel
theorem dX2_hasFace_32 : decode cX2_hasFace 32 = .ok (.ireturn, 1) := by decide +kernel
theorem dX2_addFace_0 : decode cX2_addFace 0 = .ok (.aload_n 0, 1) := by decide +kernel
theorem dX2_addFace_1 : decode cX2_addFace 1 = .ok (.getfield 15, 3) := by decide +kernel
theorem dX2_addFace_4 : decode cX2_addFace 4 = .ok (.iconst 3, 1) := by decide +kernel
theorem dX2_addFace_5 : decode cX2_addFace 5 = .ok (.if_icmp .lt 6, 3) := by decide +kernel
theorem dX2_addFace_8 : decode cX2_addFace 8 = .ok (.bipush (-5), 2) := by decide +kernel
theorem dX2_addFace_10 : decode cX2_addFace 10 = .ok (.ireturn, 1) := by decide +kernel
theorem dX2_addFace_11 : decode cX2_addFace 11 = .ok (.aload_n 0, 1) := by decide +kernel
theorem dX2_addFace_12 : decode cX2_addFace 12 = .ok (.getfield 11, 3) := by decide +kernel
theorem dX2_addFace_15 : decode cX2_addFace 15 = .ok (.aload_n 0, 1) := by decide +kernel
theorem dX2_addFace_16 : decode cX2_addFace 16 = .ok (.getfield 15, 3) := by decide +kernel
theorem dX2_addFace_19 : decode cX2_addFace 19 = .ok (.aload_n 1, 1) := by decide +kernel
theorem dX2_addFace_20 : decode cX2_addFace 20 = .ok (.aastore, 1) := by decide +kernel
theorem dX2_addFace_21 : decode cX2_addFace 21 = .ok (.aload_n 0, 1) := by decide +kernel
theorem dX2_addFace_22 : decode cX2_addFace 22 = .ok (.dup, 1) := by decide +kernel
theorem dX2_addFace_23 : decode cX2_addFace 23 = .ok (.getfield 15, 3) := by decide +kernel
theorem dX2_addFace_26 : decode cX2_addFace 26 = .ok (.iconst 1, 1) := by decide +kernel
theorem dX2_addFace_27 : decode cX2_addFace 27 = .ok (.iadd, 1) := by decide +kernel
theorem dX2_addFace_28 : decode cX2_addFace 28 = .ok (.putfield 15, 3) := by decide +kernel
theorem dX2_addFace_31 : decode cX2_addFace 31 = .ok (.aload_n 0, 1) := by decide +kernel
theorem dX2_addFace_32 : decode cX2_addFace 32 = .ok (.getfield 15, 3) := by decide +kernel
theorem dX2_addFace_35 : decode cX2_addFace 35 = .ok (.ireturn, 1) := by decide +kernel
theorem dX2_isConstant_0 : decode cX2_isConstant 0 = .ok (.iload_n 1, 1) := by decide +kernel
theorem dX2_isConstant_1 : decode cX2_isConstant 1 = .ok (.invokestatic 59, 3) := by decide +kernel
theorem dX2_isConstant_4 : decode cX2_isConstant 4 = .ok (.ifCond .eq 16, 3) := by decide +kernel
theorem dX2_isConstant_7 : decode cX2_isConstant 7 = .ok (.aload_n 0, 1) := by decide +kernel
theorem dX2_isConstant_8 : decode cX2_isConstant 8 = .ok (.getfield 23, 3) := by decide +kernel
theorem dX2_isConstant_11 : decode cX2_isConstant 11 = .ok (.iload_n 1, 1) := by decide +kernel
theorem dX2_isConstant_12 : decode cX2_isConstant 12 = .ok (.baload, 1) := by decide +kernel
theorem dX2_isConstant_13 : decode cX2_isConstant 13 = .ok (.ifCond .eq 7, 3) := by decide +kernel
theorem dX2_isConstant_16 : decode cX2_isConstant 16 = .ok (.iconst 1, 1) := by decide +kernel
theorem dX2_isConstant_17 : decode cX2_isConstant 17 = .ok (.goto 4, 3) := by decide +kernel
theorem dX2_isConstant_20 : decode cX2_isConstant 20 = .ok (.iconst 0, 1) := by decide +kernel
theorem dX2_isConstant_21 : decode cX2_isConstant 21 = .ok (.ireturn, 1) := by decide +kernel
theorem dX2_fix_0 : decode cX2_fix 0 = .ok (.iload_n 1, 1) := by decide +kernel
theorem dX2_fix_1 : decode cX2_fix 1 = .ok (.invokestatic 59, 3) := by decide +kernel
theorem dX2_fix_4 : decode cX2_fix 4 = .ok (.ifCond .eq 17, 3) := by decide +kernel
theorem dX2_fix_7 : decode cX2_fix 7 = .ok (.aload_n 0, 1) := by decide +kernel
theorem dX2_fix_8 : decode cX2_fix 8 = .ok (.getfield 19, 3) := by decide +kernel
theorem dX2_fix_11 : decode cX2_fix 11 = .ok (.iload_n 1, 1) := by decide +kernel
theorem dX2_fix_12 : decode cX2_fix 12 = .ok (.iload_n 2, 1) := by decide +kernel
theorem dX2_fix_13 : decode cX2_fix 13 = .ok (.iastore, 1) := by decide +kernel
theorem dX2_fix_14 : decode cX2_fix 14 = .ok (.aload_n 0, 1) := by decide +kernel
theorem dX2_fix_15 : decode cX2_fix 15 = .ok (.getfield 23, 3) := by decide +kernel
theorem dX2_fix_18 : decode cX2_fix 18 = .ok (.iload_n 1, 1) := by decide +kernel
theorem dX2_fix_19 : decode cX2_fix 19 = .ok (.iconst 1, 1) := by decide +kernel
theorem dX2_fix_20 : decode cX2_fix 20 = .ok (.bastore, 1) := by decide +kernel
theorem dX2_fix_21 : decode cX2_fix 21 = .ok (.return_, 1) := by decide +kernel
theorem dX2_valueOf_0 : decode cX2_valueOf 0 = .ok (.iload_n 1, 1) := by decide +kernel
theorem dX2_valueOf_1 : decode cX2_valueOf 1 = .ok (.invokestatic 59, 3) := by decide +kernel
theorem dX2_valueOf_4 : decode cX2_valueOf 4 = .ok (.ifCond .eq 12, 3) := by decide +kernel
theorem dX2_valueOf_7 : decode cX2_valueOf 7 = .ok (.aload_n 0, 1) := by decide +kernel
theorem dX2_valueOf_8 : decode cX2_valueOf 8 = .ok (.getfield 19, 3) := by decide +kernel
theorem dX2_valueOf_11 : decode cX2_valueOf 11 = .ok (.iload_n 1, 1) := by decide +kernel
theorem dX2_valueOf_12 : decode cX2_valueOf 12 = .ok (.iaload, 1) := by decide +kernel
theorem dX2_valueOf_13 : decode cX2_valueOf 13 = .ok (.goto 4, 3) := by decide +kernel
theorem dX2_valueOf_16 : decode cX2_valueOf 16 = .ok (.iconst 0, 1) := by decide +kernel
theorem dX2_valueOf_17 : decode cX2_valueOf 17 = .ok (.ireturn, 1) := by decide +kernel
theorem dX2_change_0 : decode cX2_change 0 = .ok (.iload_n 1, 1) := by decide +kernel
theorem dX2_change_1 : decode cX2_change 1 = .ok (.invokestatic 59, 3) := by decide +kernel
theorem dX2_change_4 : decode cX2_change 4 = .ok (.ifCond .eq 19, 3) := by decide +kernel
theorem dX2_change_7 : decode cX2_change 7 = .ok (.aload_n 0, 1) := by decide +kernel
theorem dX2_change_8 : decode cX2_change 8 = .ok (.getfield 23, 3) := by decide +kernel
theorem dX2_change_11 : decode cX2_change 11 = .ok (.iload_n 1, 1) := by decide +kernel
theorem dX2_change_12 : decode cX2_change 12 = .ok (.baload, 1) := by decide +kernel
theorem dX2_change_13 : decode cX2_change 13 = .ok (.ifCond .ne 10, 3) := by decide +kernel
theorem dX2_change_16 : decode cX2_change 16 = .ok (.aload_n 0, 1) := by decide +kernel
theorem dX2_change_17 : decode cX2_change 17 = .ok (.getfield 19, 3) := by decide +kernel
theorem dX2_change_20 : decode cX2_change 20 = .ok (.iload_n 1, 1) := by decide +kernel
theorem dX2_change_21 : decode cX2_change 21 = .ok (.iload_n 2, 1) := by decide +kernel
theorem dX2_change_22 : decode cX2_change 22 = .ok (.iastore, 1) := by decide +kernel
theorem dX2_change_23 : decode cX2_change 23 = .ok (.return_, 1) := by decide +kernel
theorem dX2_makeRow_0 : decode cX2_makeRow 0 = .ok (.aload_n 0, 1) := by decide +kernel
theorem dX2_makeRow_1 : decode cX2_makeRow 1 = .ok (.iconst 0, 1) := by decide +kernel
theorem dX2_makeRow_2 : decode cX2_makeRow 2 = .ok (.iload_n 1, 1) := by decide +kernel
theorem dX2_makeRow_3 : decode cX2_makeRow 3 = .ok (.bipush 20, 2) := by decide +kernel
theorem dX2_makeRow_5 : decode cX2_makeRow 5 = .ok (.invokestatic 63, 3) := by decide +kernel
theorem dX2_makeRow_8 : decode cX2_makeRow 8 = .ok (.invokestatic 69, 3) := by decide +kernel
theorem dX2_makeRow_11 : decode cX2_makeRow 11 = .ok (.putfield 30, 3) := by decide +kernel
theorem dX2_makeRow_14 : decode cX2_makeRow 14 = .ok (.iconst 0, 1) := by decide +kernel
theorem dX2_makeRow_15 : decode cX2_makeRow 15 = .ok (.istore_n 2, 1) := by decide +kernel
theorem dX2_makeRow_16 : decode cX2_makeRow 16 = .ok (.iload_n 2, 1) := by decide +kernel
theorem dX2_makeRow_17 : decode cX2_makeRow 17 = .ok (.aload_n 0, 1) := by decide +kernel
theorem dX2_makeRow_18 : decode cX2_makeRow 18 = .ok (.getfield 30, 3) := by decide +kernel
theorem dX2_makeRow_21 : decode cX2_makeRow 21 = .ok (.if_icmp .ge 16, 3) := by decide +kernel
theorem dX2_makeRow_24 : decode cX2_makeRow 24 = .ok (.aload_n 0, 1) := by decide +kernel
theorem dX2_makeRow_25 : decode cX2_makeRow 25 = .ok (.getfield 27, 3) := by decide +kernel
theorem dX2_makeRow_28 : decode cX2_makeRow 28 = .ok (.iload_n 2, 1) := by decide +kernel
theorem dX2_makeRow_29 : decode cX2_makeRow 29 = .ok (.iconst 0, 1) := by decide +kernel
theorem dX2_makeRow_30 : decode cX2_makeRow 30 = .ok (.iastore, 1) := by decide +kernel
theorem dX2_makeRow_31 : decode cX2_makeRow 31 = .ok (.iinc 2 1, 3) := by decide +kernel
theorem dX2_makeRow_34 : decode cX2_makeRow 34 = .ok (.goto (-18), 3) := by decide +kernel
theorem dX2_makeRow_37 : decode cX2_makeRow 37 = .ok (.return_, 1) := by decide +kernel
theorem dX2_dropRow_0 : decode cX2_dropRow 0 = .ok (.aload_n 0, 1) := by decide +kernel
theorem dX2_dropRow_1 : decode cX2_dropRow 1 = .ok (.iconst (-1), 1) := by decide +kernel
theorem dX2_dropRow_2 : decode cX2_dropRow 2 = .ok (.putfield 30, 3) := by decide +kernel
theorem dX2_dropRow_5 : decode cX2_dropRow 5 = .ok (.return_, 1) := by decide +kernel
theorem dX2_hasItem_0 : decode cX2_hasItem 0 = .ok (.iload_n 1, 1) := by decide +kernel
theorem dX2_hasItem_1 : decode cX2_hasItem 1 = .ok (.ifCond .lt 15, 3) := by decide +kernel
theorem dX2_hasItem_4 : decode cX2_hasItem 4 = .ok (.iload_n 1, 1) := by decide +kernel
theorem dX2_hasItem_5 : decode cX2_hasItem 5 = .ok (.aload_n 0, 1) := by decide +kernel
theorem dX2_hasItem_6 : decode cX2_hasItem 6 = .ok (.getfield 30, 3) := by decide +kernel
theorem dX2_hasItem_9 : decode cX2_hasItem 9 = .ok (.if_icmp .ge 7, 3) := by decide +kernel
theorem dX2_hasItem_12 : decode cX2_hasItem 12 = .ok (.iconst 1, 1) := by decide +kernel
theorem dX2_hasItem_13 : decode cX2_hasItem 13 = .ok (.goto 4, 3) := by decide +kernel
theorem dX2_hasItem_16 : decode cX2_hasItem 16 = .ok (.iconst 0, 1) := by decide +kernel
theorem dX2_hasItem_17 : decode cX2_hasItem 17 = .ok (.ireturn, 1) := by decide +kernel
theorem dX2_reset_0 : decode cX2_reset 0 = .ok (.aload_n 0, 1) := by decide +kernel
theorem dX2_reset_1 : decode cX2_reset 1 = .ok (.iconst 0, 1) := by decide +kernel
theorem dX2_reset_2 : decode cX2_reset 2 = .ok (.putfield 39, 3) := by decide +kernel
theorem dX2_reset_5 : decode cX2_reset 5 = .ok (.aload_n 0, 1) := by decide +kernel
theorem dX2_reset_6 : decode cX2_reset 6 = .ok (.invokevirtual 72, 3) := by decide +kernel
theorem dX2_reset_9 : decode cX2_reset 9 = .ok (.iconst 0, 1) := by decide +kernel
theorem dX2_reset_10 : decode cX2_reset 10 = .ok (.istore_n 1, 1) := by decide +kernel
theorem dX2_reset_11 : decode cX2_reset 11 = .ok (.iload_n 1, 1) := by decide +kernel
theorem dX2_reset_12 : decode cX2_reset 12 = .ok (.iconst 4, 1) := by decide +kernel
theorem dX2_reset_13 : decode cX2_reset 13 = .ok (.if_icmp .ge 15, 3) := by decide +kernel
theorem dX2_reset_16 : decode cX2_reset 16 = .ok (.aload_n 0, 1) := by decide +kernel
theorem dX2_reset_17 : decode cX2_reset 17 = .ok (.iload_n 1, 1) := by decide +kernel
theorem dX2_reset_18 : decode cX2_reset 18 = .ok (.iconst 0, 1) := by decide +kernel
theorem dX2_reset_19 : decode cX2_reset 19 = .ok (.invokevirtual 75, 3) := by decide +kernel
theorem dX2_reset_22 : decode cX2_reset 22 = .ok (.iinc 1 1, 3) := by decide +kernel
theorem dX2_reset_25 : decode cX2_reset 25 = .ok (.goto (-14), 3) := by decide +kernel
theorem dX2_reset_28 : decode cX2_reset 28 = .ok (.return_, 1) := by decide +kernel
theorem dX4_init_0 : decode cX4_init 0 = .ok (.aload_n 0, 1) := by decide +kernel
theorem dX4_init_1 : decode cX4_init 1 = .ok (.invokespecial 3, 3) := by decide +kernel
theorem dX4_init_4 : decode cX4_init 4 = .ok (.aload_n 0, 1) := by decide +kernel
theorem dX4_init_5 : decode cX4_init 5 = .ok (.bipush 10, 2) := by decide +kernel
theorem dX4_init_7 : decode cX4_init 7 = .ok (.anewarray 11, 3) := by decide +kernel
theorem dX4_init_10 : decode cX4_init 10 = .ok (.putfield 13, 3) := by decide +kernel
theorem dX4_init_13 : decode cX4_init 13 = .ok (.aload_n 0, 1) := by decide +kernel
theorem dX4_init_14 : decode cX4_init 14 = .ok (.iconst 0, 1) := by decide +kernel
theorem dX4_init_15 : decode cX4_init 15 = .ok (.putfield 17, 3) := by decide +kernel
theorem dX4_init_18 : decode cX4_init 18 = .ok (.aload_n 0, 1) := by decide +kernel
theorem dX4_init_19 : decode cX4_init 19 = .ok (.iload_n 1, 1) := by decide +kernel
theorem dX4_init_20 : decode cX4_init 20 = .ok (.putfield 21, 3) := by decide +kernel
theorem dX4_init_23 : decode cX4_init 23 = .ok (.return_, 1) := by decide +kernel
theorem dX4_append_0 : decode cX4_append 0 = .ok (.aload_n 0, 1) := by decide +kernel
theorem dX4_append_1 : decode cX4_append 1 = .ok (.getfield 17, 3) := by decide +kernel
theorem dX4_append_4 : decode cX4_append 4 = .ok (.bipush 10, 2) := by decide +kernel
theorem dX4_append_6 : decode cX4_append 6 = .ok (.if_icmp .lt 6, 3) := by decide +kernel
theorem dX4_append_9 : decode cX4_append 9 = .ok (.bipush (-5), 2) := by decide +kernel
theorem dX4_append_11 : decode cX4_append 11 = .ok (.ireturn, 1) := by decide +kernel
theorem dX4_append_12 : decode cX4_append 12 = .ok (.iload_n 1, 1) := by decide +kernel
theorem dX4_append_13 : decode cX4_append 13 = .ok (.bipush 11, 2) := by decide +kernel
theorem dX4_append_15 : decode cX4_append 15 = .ok (.if_icmp .ne 11, 3) := by decide +kernel
theorem dX4_append_18 : decode cX4_append 18 = .ok (.aload_n 0, 1) := by decide +kernel
theorem dX4_append_19 : decode cX4_append 19 = .ok (.iload_n 3, 1) := by decide +kernel
theorem dX4_append_20 : decode cX4_append 20 = .ok (.invokevirtual 24, 3) := by decide +kernel
theorem dX4_append_23 : decode cX4_append 23 = .ok (.goto 4, 3) := by decide +kernel
theorem dX4_append_26 : decode cX4_append 26 = .ok (.iconst (-1), 1) := by decide +kernel
theorem dX4_append_27 : decode cX4_append 27 = .ok (.istore 6, 2) := by decide +kernel
theorem dX4_append_29 : decode cX4_append 29 = .ok (.aload_n 0, 1) := by decide +kernel
theorem dX4_append_30 : decode cX4_append 30 = .ok (.getfield 13, 3) := by decide +kernel
theorem dX4_append_33 : decode cX4_append 33 = .ok (.aload_n 0, 1) := by decide +kernel
theorem dX4_append_34 : decode cX4_append 34 = .ok (.getfield 17, 3) := by decide +kernel
theorem dX4_append_37 : decode cX4_append 37 = .ok (.new 11, 3) := by decide +kernel
theorem dX4_append_40 : decode cX4_append 40 = .ok (.dup, 1) := by decide +kernel
theorem dX4_append_41 : decode cX4_append 41 = .ok (.iload_n 1, 1) := by decide +kernel
theorem dX4_append_42 : decode cX4_append 42 = .ok (.aload_n 2, 1) := by decide +kernel
theorem dX4_append_43 : decode cX4_append 43 = .ok (.iload_n 3, 1) := by decide +kernel
theorem dX4_append_44 : decode cX4_append 44 = .ok (.iload 4, 2) := by decide +kernel
theorem dX4_append_46 : decode cX4_append 46 = .ok (.iload 5, 2) := by decide +kernel
theorem dX4_append_48 : decode cX4_append 48 = .ok (.iload 6, 2) := by decide +kernel
theorem dX4_append_50 : decode cX4_append 50 = .ok (.invokespecial 28, 3) := by decide +kernel
theorem dX4_append_53 : decode cX4_append 53 = .ok (.aastore, 1) := by decide +kernel
theorem dX4_append_54 : decode cX4_append 54 = .ok (.aload_n 0, 1) := by decide +kernel
theorem dX4_append_55 : decode cX4_append 55 = .ok (.dup, 1) := by decide +kernel
theorem dX4_append_56 : decode cX4_append 56 = .ok (.getfield 17, 3) := by decide +kernel
theorem dX4_append_59 : decode cX4_append 59 = .ok (.iconst 1, 1) := by decide +kernel
theorem dX4_append_60 : decode cX4_append 60 = .ok (.iadd, 1) := by decide +kernel
theorem dX4_append_61 : decode cX4_append 61 = .ok (.putfield 17, 3) := by decide +kernel
theorem dX4_append_64 : decode cX4_append 64 = .ok (.aload_n 0, 1) := by decide +kernel
theorem dX4_append_65 : decode cX4_append 65 = .ok (.getfield 17, 3) := by decide +kernel
theorem dX4_append_68 : decode cX4_append 68 = .ok (.ireturn, 1) := by decide +kernel
theorem dX4_lastGuarded_0 : decode cX4_lastGuarded 0 = .ok (.aload_n 0, 1) := by decide +kernel
theorem dX4_lastGuarded_1 : decode cX4_lastGuarded 1 = .ok (.getfield 17, 3) := by decide +kernel
theorem dX4_lastGuarded_4 : decode cX4_lastGuarded 4 = .ok (.iload_n 1, 1) := by decide +kernel
theorem dX4_lastGuarded_5 : decode cX4_lastGuarded 5 = .ok (.iadd, 1) := by decide +kernel
theorem dX4_lastGuarded_6 : decode cX4_lastGuarded 6 = .ok (.istore_n 2, 1) := by decide +kernel
theorem dX4_lastGuarded_7 : decode cX4_lastGuarded 7 = .ok (.iconst 0, 1) := by decide +kernel
theorem dX4_lastGuarded_8 : decode cX4_lastGuarded 8 = .ok (.istore_n 3, 1) := by decide +kernel
theorem dX4_lastGuarded_9 : decode cX4_lastGuarded 9 = .ok (.iload_n 3, 1) := by decide +kernel
theorem dX4_lastGuarded_10 : decode cX4_lastGuarded 10 = .ok (.aload_n 0, 1) := by decide +kernel
theorem dX4_lastGuarded_11 : decode cX4_lastGuarded 11 = .ok (.getfield 17, 3) := by decide +kernel
theorem dX4_lastGuarded_14 : decode cX4_lastGuarded 14 = .ok (.if_icmp .ge 39, 3) := by decide +kernel
theorem dX4_lastGuarded_17 : decode cX4_lastGuarded 17 = .ok (.aload_n 0, 1) := by decide +kernel
theorem dX4_lastGuarded_18 : decode cX4_lastGuarded 18 = .ok (.getfield 13, 3) := by decide +kernel
theorem dX4_lastGuarded_21 : decode cX4_lastGuarded 21 = .ok (.iload_n 3, 1) := by decide +kernel
theorem dX4_lastGuarded_22 : decode cX4_lastGuarded 22 = .ok (.aaload, 1) := by decide +kernel
theorem dX4_lastGuarded_23 : decode cX4_lastGuarded 23 = .ok (.aload_n 0, 1) := by decide +kernel
theorem dX4_lastGuarded_24 : decode cX4_lastGuarded 24 = .ok (.getfield 17, 3) := by decide +kernel
theorem dX4_lastGuarded_27 : decode cX4_lastGuarded 27 = .ok (.invokevirtual 31, 3) := by decide +kernel
theorem dX4_lastGuarded_30 : decode cX4_lastGuarded 30 = .ok (.ifCond .eq 17, 3) := by decide +kernel
theorem dX4_lastGuarded_33 : decode cX4_lastGuarded 33 = .ok (.iload_n 2, 1) := by decide +kernel
theorem dX4_lastGuarded_34 : decode cX4_lastGuarded 34 = .ok (.aload_n 0, 1) := by decide +kernel
theorem dX4_lastGuarded_35 : decode cX4_lastGuarded 35 = .ok (.getfield 13, 3) := by decide +kernel
theorem dX4_lastGuarded_38 : decode cX4_lastGuarded 38 = .ok (.iload_n 3, 1) := by decide +kernel
theorem dX4_lastGuarded_39 : decode cX4_lastGuarded 39 = .ok (.aaload, 1) := by decide +kernel
theorem dX4_lastGuarded_40 : decode cX4_lastGuarded 40 = .ok (.getfield 35, 3) := by decide +kernel
theorem dX4_lastGuarded_43 : decode cX4_lastGuarded 43 = .ok (.invokestatic 37, 3) := by decide +kernel
theorem dX4_lastGuarded_46 : decode cX4_lastGuarded 46 = .ok (.istore_n 2, 1) := by decide +kernel
theorem dX4_lastGuarded_47 : decode cX4_lastGuarded 47 = .ok (.iinc 3 1, 3) := by decide +kernel
theorem dX4_lastGuarded_50 : decode cX4_lastGuarded 50 = .ok (.goto (-41), 3) := by decide +kernel
theorem dX4_lastGuarded_53 : decode cX4_lastGuarded 53 = .ok (.iload_n 2, 1) := by decide +kernel
theorem dX4_lastGuarded_54 : decode cX4_lastGuarded 54 = .ok (.ireturn, 1) := by decide +kernel
theorem dX4_endOfCatch_0 : decode cX4_endOfCatch 0 = .ok (.iload_n 1, 1) := by decide +kernel
theorem dX4_endOfCatch_1 : decode cX4_endOfCatch 1 = .ok (.aload_n 0, 1) := by decide +kernel
theorem dX4_endOfCatch_2 : decode cX4_endOfCatch 2 = .ok (.getfield 17, 3) := by decide +kernel
theorem dX4_endOfCatch_5 : decode cX4_endOfCatch 5 = .ok (.invokestatic 37, 3) := by decide +kernel
theorem dX4_endOfCatch_8 : decode cX4_endOfCatch 8 = .ok (.iconst 1, 1) := by decide +kernel
theorem dX4_endOfCatch_9 : decode cX4_endOfCatch 9 = .ok (.isub, 1) := by decide +kernel
theorem dX4_endOfCatch_10 : decode cX4_endOfCatch 10 = .ok (.istore_n 3, 1) := by decide +kernel
theorem dX4_endOfCatch_11 : decode cX4_endOfCatch 11 = .ok (.iload_n 3, 1) := by decide +kernel
theorem dX4_endOfCatch_12 : decode cX4_endOfCatch 12 = .ok (.ifCond .lt 45, 3) := by decide +kernel
theorem dX4_endOfCatch_15 : decode cX4_endOfCatch 15 = .ok (.aload_n 0, 1) := by decide +kernel
theorem dX4_endOfCatch_16 : decode cX4_endOfCatch 16 = .ok (.getfield 13, 3) := by decide +kernel
theorem dX4_endOfCatch_19 : decode cX4_endOfCatch 19 = .ok (.iload_n 3, 1) := by decide +kernel
theorem dX4_endOfCatch_20 : decode cX4_endOfCatch 20 = .ok (.aaload, 1) := by decide +kernel
theorem dX4_endOfCatch_21 : decode cX4_endOfCatch 21 = .ok (.iload_n 1, 1) := by decide +kernel
theorem dX4_endOfCatch_22 : decode cX4_endOfCatch 22 = .ok (.invokevirtual 31, 3) := by decide +kernel
theorem dX4_endOfCatch_25 : decode cX4_endOfCatch 25 = .ok (.ifCond .eq 26, 3) := by decide +kernel
theorem dX4_endOfCatch_28 : decode cX4_endOfCatch 28 = .ok (.aload_n 0, 1) := by decide +kernel
theorem dX4_endOfCatch_29 : decode cX4_endOfCatch 29 = .ok (.getfield 13, 3) := by decide +kernel
theorem dX4_endOfCatch_32 : decode cX4_endOfCatch 32 = .ok (.iload_n 3, 1) := by decide +kernel
theorem dX4_endOfCatch_33 : decode cX4_endOfCatch 33 = .ok (.aaload, 1) := by decide +kernel
theorem dX4_endOfCatch_34 : decode cX4_endOfCatch 34 = .ok (.iload_n 2, 1) := by decide +kernel
theorem dX4_endOfCatch_35 : decode cX4_endOfCatch 35 = .ok (.invokevirtual 43, 3) := by decide +kernel
theorem dX4_endOfCatch_38 : decode cX4_endOfCatch 38 = .ok (.ifCond .eq 13, 3) := by decide +kernel
theorem dX4_endOfCatch_41 : decode cX4_endOfCatch 41 = .ok (.aload_n 0, 1) := by decide +kernel
theorem dX4_endOfCatch_42 : decode cX4_endOfCatch 42 = .ok (.getfield 13, 3) := by decide +kernel
theorem dX4_endOfCatch_45 : decode cX4_endOfCatch 45 = .ok (.iload_n 3, 1) := by decide +kernel
theorem dX4_endOfCatch_46 : decode cX4_endOfCatch 46 = .ok (.aaload, 1) := by decide +kernel
theorem dX4_endOfCatch_47 : decode cX4_endOfCatch 47 = .ok (.getfield 35, 3) := by decide +kernel
theorem dX4_endOfCatch_50 : decode cX4_endOfCatch 50 = .ok (.ireturn, 1) := by decide +kernel
theorem dX4_endOfCatch_51 : decode cX4_endOfCatch 51 = .ok (.iinc 3 (-1), 3) := by decide +kernel
theorem dX4_endOfCatch_54 : decode cX4_endOfCatch 54 = .ok (.goto (-43), 3) := by decide +kernel
theorem dX4_endOfCatch_57 : decode cX4_endOfCatch 57 = .ok (.iconst (-1), 1) := by decide +kernel
theorem dX4_endOfCatch_58 : decode cX4_endOfCatch 58 = .ok (.ireturn, 1) := by decide +kernel
theorem dJ9_max_7cf53_0 : decode cJ9_max_7cf53 0 = .ok (.iload_n 0, 1) := by decide +kernel
theorem dJ9_max_7cf53_1 : decode cJ9_max_7cf53 1 = .ok (.iload_n 1, 1) := by decide +kernel
theorem dJ9_max_7cf53_2 : decode cJ9_max_7cf53 2 = .ok (.if_icmp .lt 7, 3) := by decide +kernel
theorem dJ9_max_7cf53_5 : decode cJ9_max_7cf53 5 = .ok (.iload_n 0, 1) := by decide +kernel
theorem dJ9_max_7cf53_6 : decode cJ9_max_7cf53 6 = .ok (.goto 4, 3) := by decide +kernel
theorem dJ9_max_7cf53_9 : decode cJ9_max_7cf53 9 = .ok (.iload_n 1, 1) := by decide +kernel
theorem dJ9_max_7cf53_10 : decode cJ9_max_7cf53 10 = .ok (.ireturn, 1) := by decide +kernel
theorem dJ9_min_7cf53_0 : decode cJ9_min_7cf53 0 = .ok (.iload_n 0, 1) := by decide +kernel
theorem dJ9_min_7cf53_1 : decode cJ9_min_7cf53 1 = .ok (.iload_n 1, 1) := by decide +kernel
theorem dJ9_min_7cf53_2 : decode cJ9_min_7cf53 2 = .ok (.if_icmp .gt 7, 3) := by decide +kernel
theorem dJ9_min_7cf53_5 : decode cJ9_min_7cf53 5 = .ok (.iload_n 0, 1) := by decide +kernel
theorem dJ9_min_7cf53_6 : decode cJ9_min_7cf53 6 = .ok (.goto 4, 3) := by decide +kernel
theorem dJ9_min_7cf53_9 : decode cJ9_min_7cf53 9 = .ok (.iload_n 1, 1) := by decide +kernel
theorem dJ9_min_7cf53_10 : decode cJ9_min_7cf53 10 = .ok (.ireturn, 1) := by decide +kernel
