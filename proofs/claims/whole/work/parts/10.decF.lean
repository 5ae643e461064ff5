theorem dX7_other_23 : decode cX7_other 23 = .ok (.iconst 2, 1) := by decide +kernel
theorem dX7_other_24 : decode cX7_other 24 = .ok (.if_icmp .ne 19, 3) := by decide +kernel
theorem dX7_other_27 : decode cX7_other 27 = .ok (.aload_n 0, 1) := by decide +kernel
theorem dX7_other_28 : decode cX7_other 28 = .ok (.iload 4, 2) := by decide +kernel
theorem dX7_other_30 : decode cX7_other 30 = .ok (.iload 5, 2) := by decide +kernel
theorem dX7_other_32 : decode cX7_other 32 = .ok (.aload_n 0, 1) := by decide +kernel
theorem dX7_other_33 : decode cX7_other 33 = .ok (.iload_n 1, 1) := by decide +kernel
theorem dX7_other_34 : decode cX7_other 34 = .ok (.iload_n 3, 1) := by decide +kernel
theorem dX7_other_35 : decode cX7_other 35 = .ok (.invokevirtual 162, 3) := by decide +kernel
theorem dX7_other_38 : decode cX7_other 38 = .ok (.invokevirtual 156, 3) := by decide +kernel
theorem dX7_other_41 : decode cX7_other 41 = .ok (.iconst (-1), 1) := by decide +kernel
theorem dX7_other_42 : decode cX7_other 42 = .ok (.ireturn, 1) := by decide +kernel
theorem dX7_other_43 : decode cX7_other 43 = .ok (.aload_n 0, 1) := by decide +kernel
theorem dX7_other_44 : decode cX7_other 44 = .ok (.dup, 1) := by decide +kernel
theorem dX7_other_45 : decode cX7_other 45 = .ok (.getfield 173, 3) := by decide +kernel
theorem dX7_other_48 : decode cX7_other 48 = .ok (.iload 6, 2) := by decide +kernel
theorem dX7_other_50 : decode cX7_other 50 = .ok (.ifCond .eq 24, 3) := by decide +kernel
theorem dX7_other_53 : decode cX7_other 53 = .ok (.iload 4, 2) := by decide +kernel
theorem dX7_other_55 : decode cX7_other 55 = .ok (.iload_n 1, 1) := by decide +kernel
theorem dX7_other_56 : decode cX7_other 56 = .ok (.if_icmp .eq 18, 3) := by decide +kernel
theorem dX7_other_59 : decode cX7_other 59 = .ok (.aload_n 0, 1) := by decide +kernel
theorem dX7_other_60 : decode cX7_other 60 = .ok (.getfield 44, 3) := by decide +kernel
theorem dX7_other_63 : decode cX7_other 63 = .ok (.iload 4, 2) := by decide +kernel
theorem dX7_other_65 : decode cX7_other 65 = .ok (.iaload, 1) := by decide +kernel
theorem dX7_other_66 : decode cX7_other 66 = .ok (.iconst 1, 1) := by decide +kernel
theorem dX7_other_67 : decode cX7_other 67 = .ok (.if_icmp .ne 7, 3) := by decide +kernel
theorem dX7_other_70 : decode cX7_other 70 = .ok (.iconst 1, 1) := by decide +kernel
theorem dX7_other_71 : decode cX7_other 71 = .ok (.goto 4, 3) := by decide +kernel
theorem dX7_other_74 : decode cX7_other 74 = .ok (.iconst 0, 1) := by decide +kernel
theorem dX7_other_75 : decode cX7_other 75 = .ok (.iadd, 1) := by decide +kernel
theorem dX7_other_76 : decode cX7_other 76 = .ok (.putfield 173, 3) := by decide +kernel
theorem dX7_other_79 : decode cX7_other 79 = .ok (.aload_n 0, 1) := by decide +kernel
theorem dX7_other_80 : decode cX7_other 80 = .ok (.iload 4, 2) := by decide +kernel
theorem dX7_other_82 : decode cX7_other 82 = .ok (.iload 5, 2) := by decide +kernel
theorem dX7_other_84 : decode cX7_other 84 = .ok (.invokevirtual 162, 3) := by decide +kernel
theorem dX7_other_87 : decode cX7_other 87 = .ok (.istore 7, 2) := by decide +kernel
theorem dX7_other_89 : decode cX7_other 89 = .ok (.iload_n 2, 1) := by decide +kernel
theorem dX7_other_90 : decode cX7_other 90 = .ok (.iconst 1, 1) := by decide +kernel
theorem dX7_other_91 : decode cX7_other 91 = .ok (.if_icmp .ne 20, 3) := by decide +kernel
theorem dX7_other_94 : decode cX7_other 94 = .ok (.aload_n 0, 1) := by decide +kernel
theorem dX7_other_95 : decode cX7_other 95 = .ok (.iload_n 1, 1) := by decide +kernel
theorem dX7_other_96 : decode cX7_other 96 = .ok (.iload_n 3, 1) := by decide +kernel
theorem dX7_other_97 : decode cX7_other 97 = .ok (.aload_n 0, 1) := by decide +kernel
theorem dX7_other_98 : decode cX7_other 98 = .ok (.iload_n 1, 1) := by decide +kernel
theorem dX7_other_99 : decode cX7_other 99 = .ok (.iload_n 3, 1) := by decide +kernel
theorem dX7_other_100 : decode cX7_other 100 = .ok (.invokevirtual 162, 3) := by decide +kernel
theorem dX7_other_103 : decode cX7_other 103 = .ok (.iload 7, 2) := by decide +kernel
theorem dX7_other_105 : decode cX7_other 105 = .ok (.iadd, 1) := by decide +kernel
theorem dX7_other_106 : decode cX7_other 106 = .ok (.invokevirtual 156, 3) := by decide +kernel
theorem dX7_other_109 : decode cX7_other 109 = .ok (.iconst (-1), 1) := by decide +kernel
theorem dX7_other_110 : decode cX7_other 110 = .ok (.ireturn, 1) := by decide +kernel
theorem dX7_other_111 : decode cX7_other 111 = .ok (.iload 7, 2) := by decide +kernel
theorem dX7_other_113 : decode cX7_other 113 = .ok (.ifCond .ne 9, 3) := by decide +kernel
theorem dX7_other_116 : decode cX7_other 116 = .ok (.aload_n 0, 1) := by decide +kernel
theorem dX7_other_117 : decode cX7_other 117 = .ok (.iconst 3, 1) := by decide +kernel
theorem dX7_other_118 : decode cX7_other 118 = .ok (.invokevirtual 111, 3) := by decide +kernel
theorem dX7_other_121 : decode cX7_other 121 = .ok (.ireturn, 1) := by decide +kernel
theorem dX7_other_122 : decode cX7_other 122 = .ok (.aload_n 0, 1) := by decide +kernel
theorem dX7_other_123 : decode cX7_other 123 = .ok (.iload_n 1, 1) := by decide +kernel
theorem dX7_other_124 : decode cX7_other 124 = .ok (.iload_n 3, 1) := by decide +kernel
theorem dX7_other_125 : decode cX7_other 125 = .ok (.aload_n 0, 1) := by decide +kernel
theorem dX7_other_126 : decode cX7_other 126 = .ok (.iload_n 1, 1) := by decide +kernel
theorem dX7_other_127 : decode cX7_other 127 = .ok (.iload_n 3, 1) := by decide +kernel
theorem dX7_other_128 : decode cX7_other 128 = .ok (.invokevirtual 162, 3) := by decide +kernel
theorem dX7_other_131 : decode cX7_other 131 = .ok (.iload 7, 2) := by decide +kernel
theorem dX7_other_133 : decode cX7_other 133 = .ok (.idiv, 1) := by decide +kernel
theorem dX7_other_134 : decode cX7_other 134 = .ok (.invokevirtual 156, 3) := by decide +kernel
theorem dX7_other_137 : decode cX7_other 137 = .ok (.iconst (-1), 1) := by decide +kernel
theorem dX7_other_138 : decode cX7_other 138 = .ok (.ireturn, 1) := by decide +kernel
theorem dX7_newRow_0 : decode cX7_newRow 0 = .ok (.iload_n 2, 1) := by decide +kernel
theorem dX7_newRow_1 : decode cX7_newRow 1 = .ok (.ifCond .ge 10, 3) := by decide +kernel
theorem dX7_newRow_4 : decode cX7_newRow 4 = .ok (.aload_n 0, 1) := by decide +kernel
theorem dX7_newRow_5 : decode cX7_newRow 5 = .ok (.bipush 6, 2) := by decide +kernel
theorem dX7_newRow_7 : decode cX7_newRow 7 = .ok (.invokevirtual 111, 3) := by decide +kernel
theorem dX7_newRow_10 : decode cX7_newRow 10 = .ok (.ireturn, 1) := by decide +kernel
theorem dX7_newRow_11 : decode cX7_newRow 11 = .ok (.iload_n 2, 1) := by decide +kernel
theorem dX7_newRow_12 : decode cX7_newRow 12 = .ok (.bipush 20, 2) := by decide +kernel
theorem dX7_newRow_14 : decode cX7_newRow 14 = .ok (.if_icmp .le 8, 3) := by decide +kernel
theorem dX7_newRow_17 : decode cX7_newRow 17 = .ok (.bipush 20, 2) := by decide +kernel
theorem dX7_newRow_19 : decode cX7_newRow 19 = .ok (.goto 4, 3) := by decide +kernel
theorem dX7_newRow_22 : decode cX7_newRow 22 = .ok (.iload_n 2, 1) := by decide +kernel
theorem dX7_newRow_23 : decode cX7_newRow 23 = .ok (.istore_n 3, 1) := by decide +kernel
theorem dX7_newRow_24 : decode cX7_newRow 24 = .ok (.aload_n 0, 1) := by decide +kernel
theorem dX7_newRow_25 : decode cX7_newRow 25 = .ok (.getfield 32, 3) := by decide +kernel
theorem dX7_newRow_28 : decode cX7_newRow 28 = .ok (.iload_n 1, 1) := by decide +kernel
theorem dX7_newRow_29 : decode cX7_newRow 29 = .ok (.iload_n 3, 1) := by decide +kernel
theorem dX7_newRow_30 : decode cX7_newRow 30 = .ok (.iconst 1, 1) := by decide +kernel
theorem dX7_newRow_31 : decode cX7_newRow 31 = .ok (.iadd, 1) := by decide +kernel
theorem dX7_newRow_32 : decode cX7_newRow 32 = .ok (.iastore, 1) := by decide +kernel
theorem dX7_newRow_33 : decode cX7_newRow 33 = .ok (.iconst 0, 1) := by decide +kernel
theorem dX7_newRow_34 : decode cX7_newRow 34 = .ok (.istore 4, 2) := by decide +kernel
theorem dX7_newRow_36 : decode cX7_newRow 36 = .ok (.iload 4, 2) := by decide +kernel
theorem dX7_newRow_38 : decode cX7_newRow 38 = .ok (.iload_n 3, 1) := by decide +kernel
theorem dX7_newRow_39 : decode cX7_newRow 39 = .ok (.if_icmp .ge 22, 3) := by decide +kernel
theorem dX7_newRow_42 : decode cX7_newRow 42 = .ok (.aload_n 0, 1) := by decide +kernel
theorem dX7_newRow_43 : decode cX7_newRow 43 = .ok (.getfield 35, 3) := by decide +kernel
theorem dX7_newRow_46 : decode cX7_newRow 46 = .ok (.bipush 20, 2) := by decide +kernel
theorem dX7_newRow_48 : decode cX7_newRow 48 = .ok (.iload_n 1, 1) := by decide +kernel
theorem dX7_newRow_49 : decode cX7_newRow 49 = .ok (.imul, 1) := by decide +kernel
theorem dX7_newRow_50 : decode cX7_newRow 50 = .ok (.iload 4, 2) := by decide +kernel
theorem dX7_newRow_52 : decode cX7_newRow 52 = .ok (.iadd, 1) := by decide +kernel
theorem dX7_newRow_53 : decode cX7_newRow 53 = .ok (.iconst 0, 1) := by decide +kernel
theorem dX7_newRow_54 : decode cX7_newRow 54 = .ok (.iastore, 1) := by decide +kernel
theorem dX7_newRow_55 : decode cX7_newRow 55 = .ok (.iinc 4 1, 3) := by decide +kernel
theorem dX7_newRow_58 : decode cX7_newRow 58 = .ok (.goto (-22), 3) := by decide +kernel
theorem dX7_newRow_61 : decode cX7_newRow 61 = .ok (.iconst (-1), 1) := by decide +kernel
theorem dX7_newRow_62 : decode cX7_newRow 62 = .ok (.ireturn, 1) := by decide +kernel
theorem dX7_inOut_0 : decode cX7_inOut 0 = .ok (.aload_n 0, 1) := by decide +kernel
theorem dX7_inOut_1 : decode cX7_inOut 1 = .ok (.getfield 32, 3) := by decide +kernel
theorem dX7_inOut_4 : decode cX7_inOut 4 = .ok (.iload_n 1, 1) := by decide +kernel
theorem dX7_inOut_5 : decode cX7_inOut 5 = .ok (.iaload, 1) := by decide +kernel
theorem dX7_inOut_6 : decode cX7_inOut 6 = .ok (.ifCond .ne 9, 3) := by decide +kernel
theorem dX7_inOut_9 : decode cX7_inOut 9 = .ok (.aload_n 0, 1) := by decide +kernel
theorem dX7_inOut_10 : decode cX7_inOut 10 = .ok (.iconst 4, 1) := by decide +kernel
theorem dX7_inOut_11 : decode cX7_inOut 11 = .ok (.invokevirtual 111, 3) := by decide +kernel
theorem dX7_inOut_14 : decode cX7_inOut 14 = .ok (.ireturn, 1) := by decide +kernel
theorem dX7_inOut_15 : decode cX7_inOut 15 = .ok (.aload_n 0, 1) := by decide +kernel
theorem dX7_inOut_16 : decode cX7_inOut 16 = .ok (.iload_n 1, 1) := by decide +kernel
theorem dX7_inOut_17 : decode cX7_inOut 17 = .ok (.iload_n 2, 1) := by decide +kernel
theorem dX7_inOut_18 : decode cX7_inOut 18 = .ok (.ifCond .eq 7, 3) := by decide +kernel
theorem dX7_inOut_21 : decode cX7_inOut 21 = .ok (.iload_n 3, 1) := by decide +kernel
theorem dX7_inOut_22 : decode cX7_inOut 22 = .ok (.goto 5, 3) := by decide +kernel
theorem dX7_inOut_25 : decode cX7_inOut 25 = .ok (.iload 4, 2) := by decide +kernel
theorem dX7_inOut_27 : decode cX7_inOut 27 = .ok (.invokevirtual 162, 3) := by decide +kernel
theorem dX7_inOut_30 : decode cX7_inOut 30 = .ok (.istore 5, 2) := by decide +kernel
theorem dX7_inOut_32 : decode cX7_inOut 32 = .ok (.iload 5, 2) := by decide +kernel
theorem dX7_inOut_34 : decode cX7_inOut 34 = .ok (.ifCond .lt 16, 3) := by decide +kernel
theorem dX7_inOut_37 : decode cX7_inOut 37 = .ok (.iload 5, 2) := by decide +kernel
theorem dX7_inOut_39 : decode cX7_inOut 39 = .ok (.aload_n 0, 1) := by decide +kernel
theorem dX7_inOut_40 : decode cX7_inOut 40 = .ok (.getfield 32, 3) := by decide +kernel
theorem dX7_inOut_43 : decode cX7_inOut 43 = .ok (.iload_n 1, 1) := by decide +kernel
theorem dX7_inOut_44 : decode cX7_inOut 44 = .ok (.iaload, 1) := by decide +kernel
theorem dX7_inOut_45 : decode cX7_inOut 45 = .ok (.iconst 1, 1) := by decide +kernel
theorem dX7_inOut_46 : decode cX7_inOut 46 = .ok (.isub, 1) := by decide +kernel
theorem dX7_inOut_47 : decode cX7_inOut 47 = .ok (.if_icmp .lt 9, 3) := by decide +kernel
theorem dX7_inOut_50 : decode cX7_inOut 50 = .ok (.aload_n 0, 1) := by decide +kernel
theorem dX7_inOut_51 : decode cX7_inOut 51 = .ok (.iconst 5, 1) := by decide +kernel
theorem dX7_inOut_52 : decode cX7_inOut 52 = .ok (.invokevirtual 111, 3) := by decide +kernel
theorem dX7_inOut_55 : decode cX7_inOut 55 = .ok (.ireturn, 1) := by decide +kernel
theorem dX7_inOut_56 : decode cX7_inOut 56 = .ok (.iload_n 2, 1) := by decide +kernel
theorem dX7_inOut_57 : decode cX7_inOut 57 = .ok (.ifCond .eq 25, 3) := by decide +kernel
theorem dX7_inOut_60 : decode cX7_inOut 60 = .ok (.aload_n 0, 1) := by decide +kernel
theorem dX7_inOut_61 : decode cX7_inOut 61 = .ok (.getfield 35, 3) := by decide +kernel
theorem dX7_inOut_64 : decode cX7_inOut 64 = .ok (.bipush 20, 2) := by decide +kernel
theorem dX7_inOut_66 : decode cX7_inOut 66 = .ok (.iload_n 1, 1) := by decide +kernel
theorem dX7_inOut_67 : decode cX7_inOut 67 = .ok (.imul, 1) := by decide +kernel
theorem dX7_inOut_68 : decode cX7_inOut 68 = .ok (.iload 5, 2) := by decide +kernel
theorem dX7_inOut_70 : decode cX7_inOut 70 = .ok (.iadd, 1) := by decide +kernel
theorem dX7_inOut_71 : decode cX7_inOut 71 = .ok (.aload_n 0, 1) := by decide +kernel
theorem dX7_inOut_72 : decode cX7_inOut 72 = .ok (.iload_n 1, 1) := by decide +kernel
theorem dX7_inOut_73 : decode cX7_inOut 73 = .ok (.iload 4, 2) := by decide +kernel
theorem dX7_inOut_75 : decode cX7_inOut 75 = .ok (.invokevirtual 162, 3) := by decide +kernel
theorem dX7_inOut_78 : decode cX7_inOut 78 = .ok (.iastore, 1) := by decide +kernel
theorem dX7_inOut_79 : decode cX7_inOut 79 = .ok (.goto 21, 3) := by decide +kernel
theorem dX7_inOut_82 : decode cX7_inOut 82 = .ok (.aload_n 0, 1) := by decide +kernel
theorem dX7_inOut_83 : decode cX7_inOut 83 = .ok (.iload_n 1, 1) := by decide +kernel
theorem dX7_inOut_84 : decode cX7_inOut 84 = .ok (.iload_n 3, 1) := by decide +kernel
theorem dX7_inOut_85 : decode cX7_inOut 85 = .ok (.aload_n 0, 1) := by decide +kernel
theorem dX7_inOut_86 : decode cX7_inOut 86 = .ok (.getfield 35, 3) := by decide +kernel
theorem dX7_inOut_89 : decode cX7_inOut 89 = .ok (.bipush 20, 2) := by decide +kernel
theorem dX7_inOut_91 : decode cX7_inOut 91 = .ok (.iload_n 1, 1) := by decide +kernel
theorem dX7_inOut_92 : decode cX7_inOut 92 = .ok (.imul, 1) := by decide +kernel
theorem dX7_inOut_93 : decode cX7_inOut 93 = .ok (.iload 5, 2) := by decide +kernel
theorem dX7_inOut_95 : decode cX7_inOut 95 = .ok (.iadd, 1) := by decide +kernel
theorem dX7_inOut_96 : decode cX7_inOut 96 = .ok (.iaload, 1) := by decide +kernel
theorem dX7_inOut_97 : decode cX7_inOut 97 = .ok (.invokevirtual 156, 3) := by decide +kernel
theorem dX7_inOut_100 : decode cX7_inOut 100 = .ok (.iconst (-1), 1) := by decide +kernel
theorem dX7_inOut_101 : decode cX7_inOut 101 = .ok (.ireturn, 1) := by decide +kernel
theorem dX7_run_0 : decode cX7_run 0 = .ok (.aload_n 0, 1) := by decide +kernel
theorem dX7_run_1 : decode cX7_run 1 = .ok (.iload_n 1, 1) := by decide +kernel
theorem dX7_run_2 : decode cX7_run 2 = .ok (.invokevirtual 87, 3) := by decide +kernel
theorem dX7_run_5 : decode cX7_run 5 = .ok (.ifCond .ne 6, 3) := by decide +kernel
theorem dX7_run_8 : decode cX7_run 8 = .ok (.bipush (-2), 2) := by decide +kernel
theorem dX7_run_10 : decode cX7_run 10 = .ok (.ireturn, 1) := by decide +kernel
theorem dX7_run_11 : decode cX7_run 11 = .ok (.iload_n 2, 1) := by decide +kernel
theorem dX7_run_12 : decode cX7_run 12 = .ok (.iconst 1, 1) := by decide +kernel
theorem dX7_run_13 : decode cX7_run 13 = .ok (.if_icmp .lt 8, 3) := by decide +kernel
theorem dX7_run_16 : decode cX7_run 16 = .ok (.iload_n 2, 1) := by decide +kernel
theorem dX7_run_17 : decode cX7_run 17 = .ok (.iconst 3, 1) := by decide +kernel
theorem dX7_run_18 : decode cX7_run 18 = .ok (.if_icmp .le 6, 3) := by decide +kernel
theorem dX7_run_21 : decode cX7_run 21 = .ok (.bipush (-3), 2) := by decide +kernel
theorem dX7_run_23 : decode cX7_run 23 = .ok (.ireturn, 1) := by decide +kernel
theorem dX7_run_24 : decode cX7_run 24 = .ok (.aload_n 0, 1) := by decide +kernel
theorem dX7_run_25 : decode cX7_run 25 = .ok (.iconst 0, 1) := by decide +kernel
theorem dX7_run_26 : decode cX7_run 26 = .ok (.putfield 102, 3) := by decide +kernel
theorem dX7_run_29 : decode cX7_run 29 = .ok (.aload_n 0, 1) := by decide +kernel
theorem dX7_run_30 : decode cX7_run 30 = .ok (.iconst 0, 1) := by decide +kernel
theorem dX7_run_31 : decode cX7_run 31 = .ok (.putfield 173, 3) := by decide +kernel
theorem dX7_run_34 : decode cX7_run 34 = .ok (.aload_n 0, 1) := by decide +kernel
theorem dX7_run_35 : decode cX7_run 35 = .ok (.iconst 0, 1) := by decide +kernel
theorem dX7_run_36 : decode cX7_run 36 = .ok (.putfield 145, 3) := by decide +kernel
theorem dX7_run_39 : decode cX7_run 39 = .ok (.aload_n 0, 1) := by decide +kernel
theorem dX7_run_40 : decode cX7_run 40 = .ok (.iconst 0, 1) := by decide +kernel
theorem dX7_run_41 : decode cX7_run 41 = .ok (.putfield 105, 3) := by decide +kernel
theorem dX7_run_44 : decode cX7_run 44 = .ok (.aload_n 0, 1) := by decide +kernel
theorem dX7_run_45 : decode cX7_run 45 = .ok (.iconst 0, 1) := by decide +kernel
theorem dX7_run_46 : decode cX7_run 46 = .ok (.putfield 126, 3) := by decide +kernel
theorem dX7_run_49 : decode cX7_run 49 = .ok (.aload_n 0, 1) := by decide +kernel
theorem dX7_run_50 : decode cX7_run 50 = .ok (.iconst 0, 1) := by decide +kernel
theorem dX7_run_51 : decode cX7_run 51 = .ok (.putfield 108, 3) := by decide +kernel
theorem dX7_run_54 : decode cX7_run 54 = .ok (.aload_n 0, 1) := by decide +kernel
theorem dX7_run_55 : decode cX7_run 55 = .ok (.iconst (-1), 1) := by decide +kernel
theorem dX7_run_56 : decode cX7_run 56 = .ok (.putfield 115, 3) := by decide +kernel
theorem dX7_run_59 : decode cX7_run 59 = .ok (.aload_n 0, 1) := by decide +kernel
theorem dX7_run_60 : decode cX7_run 60 = .ok (.iconst 3, 1) := by decide +kernel
theorem dX7_run_61 : decode cX7_run 61 = .ok (.iload_n 1, 1) := by decide +kernel
theorem dX7_run_62 : decode cX7_run 62 = .ok (.iload_n 2, 1) := by decide +kernel
theorem dX7_run_63 : decode cX7_run 63 = .ok (.invokevirtual 122, 3) := by decide +kernel
theorem dX7_run_66 : decode cX7_run 66 = .ok (.aload_n 0, 1) := by decide +kernel
theorem dX7_run_67 : decode cX7_run 67 = .ok (.getfield 108, 3) := by decide +kernel
theorem dX7_run_70 : decode cX7_run 70 = .ok (.ifCond .le 25, 3) := by decide +kernel
theorem dX7_run_73 : decode cX7_run 73 = .ok (.aload_n 0, 1) := by decide +kernel
theorem dX7_run_74 : decode cX7_run 74 = .ok (.getfield 115, 3) := by decide +kernel
theorem dX7_run_77 : decode cX7_run 77 = .ok (.iconst (-1), 1) := by decide +kernel
theorem dX7_run_78 : decode cX7_run 78 = .ok (.if_icmp .ne 10, 3) := by decide +kernel
theorem dX7_run_81 : decode cX7_run 81 = .ok (.aload_n 0, 1) := by decide +kernel
theorem dX7_run_82 : decode cX7_run 82 = .ok (.invokevirtual 176, 3) := by decide +kernel
theorem dX7_run_85 : decode cX7_run 85 = .ok (.goto (-19), 3) := by decide +kernel
theorem dX7_run_88 : decode cX7_run 88 = .ok (.aload_n 0, 1) := by decide +kernel
theorem dX7_run_89 : decode cX7_run 89 = .ok (.invokevirtual 179, 3) := by decide +kernel
theorem dX7_run_92 : decode cX7_run 92 = .ok (.goto (-26), 3) := by decide +kernel
theorem dX7_run_95 : decode cX7_run 95 = .ok (.aload_n 0, 1) := by decide +kernel
theorem dX7_run_96 : decode cX7_run 96 = .ok (.aload_n 0, 1) := by decide +kernel
theorem dX7_run_97 : decode cX7_run 97 = .ok (.getfield 115, 3) := by decide +kernel
theorem dX7_run_100 : decode cX7_run 100 = .ok (.bipush 7, 2) := by decide +kernel
theorem dX7_run_102 : decode cX7_run 102 = .ok (.if_icmp .ne 10, 3) := by decide +kernel
theorem dX7_run_105 : decode cX7_run 105 = .ok (.aload_n 0, 1) := by decide +kernel
theorem dX7_run_106 : decode cX7_run 106 = .ok (.getfield 142, 3) := by decide +kernel
theorem dX7_run_109 : decode cX7_run 109 = .ok (.goto 4, 3) := by decide +kernel
theorem dX7_run_112 : decode cX7_run 112 = .ok (.iconst (-1), 1) := by decide +kernel
theorem dX7_run_113 : decode cX7_run 113 = .ok (.putfield 53, 3) := by decide +kernel
theorem dX7_run_116 : decode cX7_run 116 = .ok (.aload_n 0, 1) := by decide +kernel
theorem dX7_run_117 : decode cX7_run 117 = .ok (.getfield 115, 3) := by decide +kernel
theorem dX7_run_120 : decode cX7_run 120 = .ok (.ireturn, 1) := by decide +kernel
theorem dX7_cause_0 : decode cX7_cause 0 = .ok (.aload_n 0, 1) := by decide +kernel
theorem dX7_cause_1 : decode cX7_cause 1 = .ok (.getfield 53, 3) := by decide +kernel
theorem dX7_cause_4 : decode cX7_cause 4 = .ok (.ireturn, 1) := by decide +kernel
theorem dX7_count_0 : decode cX7_count 0 = .ok (.iload_n 1, 1) := by decide +kernel
theorem dX7_count_1 : decode cX7_count 1 = .ok (.ifCond .ne 10, 3) := by decide +kernel
theorem dX7_count_4 : decode cX7_count 4 = .ok (.aload_n 0, 1) := by decide +kernel
theorem dX7_count_5 : decode cX7_count 5 = .ok (.getfield 102, 3) := by decide +kernel
theorem dX7_count_8 : decode cX7_count 8 = .ok (.goto 41, 3) := by decide +kernel
theorem dX7_count_11 : decode cX7_count 11 = .ok (.iload_n 1, 1) := by decide +kernel
theorem dX7_count_12 : decode cX7_count 12 = .ok (.iconst 1, 1) := by decide +kernel
theorem dX7_count_13 : decode cX7_count 13 = .ok (.if_icmp .ne 10, 3) := by decide +kernel
theorem dX7_count_16 : decode cX7_count 16 = .ok (.aload_n 0, 1) := by decide +kernel
theorem dX7_count_17 : decode cX7_count 17 = .ok (.getfield 173, 3) := by decide +kernel
theorem dX7_count_20 : decode cX7_count 20 = .ok (.goto 29, 3) := by decide +kernel
theorem dX7_count_23 : decode cX7_count 23 = .ok (.iload_n 1, 1) := by decide +kernel
theorem dX7_count_24 : decode cX7_count 24 = .ok (.iconst 2, 1) := by decide +kernel
theorem dX7_count_25 : decode cX7_count 25 = .ok (.if_icmp .ne 10, 3) := by decide +kernel
theorem dX7_count_28 : decode cX7_count 28 = .ok (.aload_n 0, 1) := by decide +kernel
theorem dX7_count_29 : decode cX7_count 29 = .ok (.getfield 145, 3) := by decide +kernel
theorem dX7_count_32 : decode cX7_count 32 = .ok (.goto 17, 3) := by decide +kernel
theorem dX7_count_35 : decode cX7_count 35 = .ok (.iload_n 1, 1) := by decide +kernel
theorem dX7_count_36 : decode cX7_count 36 = .ok (.iconst 3, 1) := by decide +kernel
theorem dX7_count_37 : decode cX7_count 37 = .ok (.if_icmp .ne 10, 3) := by decide +kernel
theorem dX7_count_40 : decode cX7_count 40 = .ok (.aload_n 0, 1) := by decide +kernel
theorem dX7_count_41 : decode cX7_count 41 = .ok (.getfield 105, 3) := by decide +kernel
theorem dX7_count_44 : decode cX7_count 44 = .ok (.goto 5, 3) := by decide +kernel
theorem dX7_count_47 : decode cX7_count 47 = .ok (.bipush (-3), 2) := by decide +kernel
theorem dX7_count_49 : decode cX7_count 49 = .ok (.ireturn, 1) := by decide +kernel
theorem dX7_event_0 : decode cX7_event 0 = .ok (.iload_n 1, 1) := by decide +kernel
theorem dX7_event_1 : decode cX7_event 1 = .ok (.ifCond .lt 20, 3) := by decide +kernel
theorem dX7_event_4 : decode cX7_event 4 = .ok (.iload_n 1, 1) := by decide +kernel
theorem dX7_event_5 : decode cX7_event 5 = .ok (.aload_n 0, 1) := by decide +kernel
theorem dX7_event_6 : decode cX7_event 6 = .ok (.getfield 102, 3) := by decide +kernel
theorem dX7_event_9 : decode cX7_event 9 = .ok (.if_icmp .ge 12, 3) := by decide +kernel
theorem dX7_event_12 : decode cX7_event 12 = .ok (.iload_n 2, 1) := by decide +kernel
theorem dX7_event_13 : decode cX7_event 13 = .ok (.ifCond .lt 8, 3) := by decide +kernel
theorem dX7_event_16 : decode cX7_event 16 = .ok (.iload_n 2, 1) := by decide +kernel
theorem dX7_event_17 : decode cX7_event 17 = .ok (.iconst 1, 1) := by decide +kernel
theorem dX7_event_18 : decode cX7_event 18 = .ok (.if_icmp .le 5, 3) := by decide +kernel
theorem dX7_event_21 : decode cX7_event 21 = .ok (.iconst 0, 1) := by decide +kernel
theorem dX7_event_22 : decode cX7_event 22 = .ok (.ireturn, 1) := by decide +kernel
theorem dX7_event_23 : decode cX7_event 23 = .ok (.iload_n 2, 1) := by decide +kernel
theorem dX7_event_24 : decode cX7_event 24 = .ok (.ifCond .ne 12, 3) := by decide +kernel
theorem dX7_event_27 : decode cX7_event 27 = .ok (.aload_n 0, 1) := by decide +kernel
theorem dX7_event_28 : decode cX7_event 28 = .ok (.getfield 47, 3) := by decide +kernel
theorem dX7_event_31 : decode cX7_event 31 = .ok (.iload_n 1, 1) := by decide +kernel
theorem dX7_event_32 : decode cX7_event 32 = .ok (.iaload, 1) := by decide +kernel
theorem dX7_event_33 : decode cX7_event 33 = .ok (.goto 9, 3) := by decide +kernel
theorem dX7_event_36 : decode cX7_event 36 = .ok (.aload_n 0, 1) := by decide +kernel
theorem dX7_event_37 : decode cX7_event 37 = .ok (.getfield 50, 3) := by decide +kernel
theorem dX7_event_40 : decode cX7_event 40 = .ok (.iload_n 1, 1) := by decide +kernel
theorem dX7_event_41 : decode cX7_event 41 = .ok (.iaload, 1) := by decide +kernel
theorem dX7_event_42 : decode cX7_event 42 = .ok (.ireturn, 1) := by decide +kernel
theorem dX7_state_0 : decode cX7_state 0 = .ok (.aload_n 0, 1) := by decide +kernel
theorem dX7_state_1 : decode cX7_state 1 = .ok (.iload_n 1, 1) := by decide +kernel
theorem dX7_state_2 : decode cX7_state 2 = .ok (.invokevirtual 87, 3) := by decide +kernel
theorem dX7_state_5 : decode cX7_state 5 = .ok (.ifCond .eq 12, 3) := by decide +kernel
theorem dX7_state_8 : decode cX7_state 8 = .ok (.aload_n 0, 1) := by decide +kernel
theorem dX7_state_9 : decode cX7_state 9 = .ok (.getfield 44, 3) := by decide +kernel
theorem dX7_state_12 : decode cX7_state 12 = .ok (.iload_n 1, 1) := by decide +kernel
theorem dX7_state_13 : decode cX7_state 13 = .ok (.iaload, 1) := by decide +kernel
theorem dX7_state_14 : decode cX7_state 14 = .ok (.goto 5, 3) := by decide +kernel
theorem dX7_state_17 : decode cX7_state 17 = .ok (.bipush (-2), 2) := by decide +kernel
theorem dX7_state_19 : decode cX7_state 19 = .ok (.ireturn, 1) := by decide +kernel
theorem dX7_field_0 : decode cX7_field 0 = .ok (.aload_n 0, 1) := by decide +kernel
theorem dX7_field_1 : decode cX7_field 1 = .ok (.iload_n 1, 1) := by decide +kernel
theorem dX7_field_2 : decode cX7_field 2 = .ok (.invokevirtual 87, 3) := by decide +kernel
theorem dX7_field_5 : decode cX7_field 5 = .ok (.ifCond .eq 19, 3) := by decide +kernel
theorem dX7_field_8 : decode cX7_field 8 = .ok (.iload_n 2, 1) := by decide +kernel
theorem dX7_field_9 : decode cX7_field 9 = .ok (.invokestatic 95, 3) := by decide +kernel
theorem dX7_field_12 : decode cX7_field 12 = .ok (.ifCond .eq 12, 3) := by decide +kernel
theorem dX7_field_15 : decode cX7_field 15 = .ok (.aload_n 0, 1) := by decide +kernel
theorem dX7_field_16 : decode cX7_field 16 = .ok (.iload_n 1, 1) := by decide +kernel
theorem dX7_field_17 : decode cX7_field 17 = .ok (.iload_n 2, 1) := by decide +kernel
theorem dX7_field_18 : decode cX7_field 18 = .ok (.invokevirtual 162, 3) := by decide +kernel
theorem dX7_field_21 : decode cX7_field 21 = .ok (.goto 4, 3) := by decide +kernel
theorem dX7_field_24 : decode cX7_field 24 = .ok (.iconst 0, 1) := by decide +kernel
theorem dX7_field_25 : decode cX7_field 25 = .ok (.ireturn, 1) := by decide +kernel
theorem dX7_row_0 : decode cX7_row 0 = .ok (.aload_n 0, 1) := by decide +kernel
theorem dX7_row_1 : decode cX7_row 1 = .ok (.iload_n 1, 1) := by decide +kernel
theorem dX7_row_2 : decode cX7_row 2 = .ok (.invokevirtual 87, 3) := by decide +kernel
theorem dX7_row_5 : decode cX7_row 5 = .ok (.ifCond .eq 14, 3) := by decide +kernel
theorem dX7_row_8 : decode cX7_row 8 = .ok (.aload_n 0, 1) := by decide +kernel
theorem dX7_row_9 : decode cX7_row 9 = .ok (.getfield 32, 3) := by decide +kernel
theorem dX7_row_12 : decode cX7_row 12 = .ok (.iload_n 1, 1) := by decide +kernel
theorem dX7_row_13 : decode cX7_row 13 = .ok (.iaload, 1) := by decide +kernel
theorem dX7_row_14 : decode cX7_row 14 = .ok (.iconst 1, 1) := by decide +kernel
theorem dX7_row_15 : decode cX7_row 15 = .ok (.isub, 1) := by decide +kernel
theorem dX7_row_16 : decode cX7_row 16 = .ok (.goto 5, 3) := by decide +kernel
theorem dX7_row_19 : decode cX7_row 19 = .ok (.bipush (-2), 2) := by decide +kernel
theorem dX7_row_21 : decode cX7_row 21 = .ok (.ireturn, 1) := by decide +kernel
theorem dX7_item_0 : decode cX7_item 0 = .ok (.aload_n 0, 1) := by decide +kernel
theorem dX7_item_1 : decode cX7_item 1 = .ok (.iload_n 1, 1) := by decide +kernel
theorem dX7_item_2 : decode cX7_item 2 = .ok (.invokevirtual 87, 3) := by decide +kernel
theorem dX7_item_5 : decode cX7_item 5 = .ok (.ifCond .eq 19, 3) := by decide +kernel
theorem dX7_item_8 : decode cX7_item 8 = .ok (.iload_n 2, 1) := by decide +kernel
theorem dX7_item_9 : decode cX7_item 9 = .ok (.ifCond .lt 15, 3) := by decide +kernel
theorem dX7_item_12 : decode cX7_item 12 = .ok (.iload_n 2, 1) := by decide +kernel
theorem dX7_item_13 : decode cX7_item 13 = .ok (.aload_n 0, 1) := by decide +kernel
theorem dX7_item_14 : decode cX7_item 14 = .ok (.getfield 32, 3) := by decide +kernel
theorem dX7_item_17 : decode cX7_item 17 = .ok (.iload_n 1, 1) := by decide +kernel
theorem dX7_item_18 : decode cX7_item 18 = .ok (.iaload, 1) := by decide +kernel
theorem dX7_item_19 : decode cX7_item 19 = .ok (.iconst 1, 1) := by decide +kernel
theorem dX7_item_20 : decode cX7_item 20 = .ok (.isub, 1) := by decide +kernel
theorem dX7_item_21 : decode cX7_item 21 = .ok (.if_icmp .lt 7, 3) := by decide +kernel
theorem dX7_item_24 : decode cX7_item 24 = .ok (.iconst 0, 1) := by decide +kernel
theorem dX7_item_25 : decode cX7_item 25 = .ok (.goto 14, 3) := by decide +kernel
theorem dX7_item_28 : decode cX7_item 28 = .ok (.aload_n 0, 1) := by decide +kernel
theorem dX7_item_29 : decode cX7_item 29 = .ok (.getfield 35, 3) := by decide +kernel
theorem dX7_item_32 : decode cX7_item 32 = .ok (.bipush 20, 2) := by decide +kernel
theorem dX7_item_34 : decode cX7_item 34 = .ok (.iload_n 1, 1) := by decide +kernel
theorem dX7_item_35 : decode cX7_item 35 = .ok (.imul, 1) := by decide +kernel
theorem dX7_item_36 : decode cX7_item 36 = .ok (.iload_n 2, 1) := by decide +kernel
theorem dX7_item_37 : decode cX7_item 37 = .ok (.iadd, 1) := by decide +kernel
theorem dX7_item_38 : decode cX7_item 38 = .ok (.iaload, 1) := by decide +kernel
theorem dX7_item_39 : decode cX7_item 39 = .ok (.ireturn, 1) := by decide +kernel
theorem dX7_again_0 : decode cX7_again 0 = .ok (.iconst 0, 1) := by decide +kernel
theorem dX7_again_1 : decode cX7_again 1 = .ok (.istore_n 1, 1) := by decide +kernel
theorem dX7_again_2 : decode cX7_again 2 = .ok (.iconst 0, 1) := by decide +kernel
theorem dX7_again_3 : decode cX7_again 3 = .ok (.istore_n 2, 1) := by decide +kernel
theorem dX7_again_4 : decode cX7_again 4 = .ok (.iload_n 2, 1) := by decide +kernel
theorem dX7_again_5 : decode cX7_again 5 = .ok (.aload_n 0, 1) := by decide +kernel
theorem dX7_again_6 : decode cX7_again 6 = .ok (.getfield 84, 3) := by decide +kernel
theorem dX7_again_9 : decode cX7_again 9 = .ok (.if_icmp .ge 60, 3) := by decide +kernel
theorem dX7_again_12 : decode cX7_again 12 = .ok (.iload_n 1, 1) := by decide +kernel
theorem dX7_again_13 : decode cX7_again 13 = .ok (.aload_n 0, 1) := by decide +kernel
theorem dX7_again_14 : decode cX7_again 14 = .ok (.getfield 44, 3) := by decide +kernel
theorem dX7_again_17 : decode cX7_again 17 = .ok (.iload_n 2, 1) := by decide +kernel
theorem dX7_again_18 : decode cX7_again 18 = .ok (.iaload, 1) := by decide +kernel
theorem dX7_again_19 : decode cX7_again 19 = .ok (.ifCond .eq 7, 3) := by decide +kernel
theorem dX7_again_22 : decode cX7_again 22 = .ok (.iconst 1, 1) := by decide +kernel
theorem dX7_again_23 : decode cX7_again 23 = .ok (.goto 4, 3) := by decide +kernel
theorem dX7_again_26 : decode cX7_again 26 = .ok (.iconst 0, 1) := by decide +kernel
theorem dX7_again_27 : decode cX7_again 27 = .ok (.iadd, 1) := by decide +kernel
theorem dX7_again_28 : decode cX7_again 28 = .ok (.istore_n 1, 1) := by decide +kernel
theorem dX7_again_29 : decode cX7_again 29 = .ok (.aload_n 0, 1) := by decide +kernel
theorem dX7_again_30 : decode cX7_again 30 = .ok (.getfield 44, 3) := by decide +kernel
theorem dX7_again_33 : decode cX7_again 33 = .ok (.iload_n 2, 1) := by decide +kernel
theorem dX7_again_34 : decode cX7_again 34 = .ok (.iconst 0, 1) := by decide +kernel
theorem dX7_again_35 : decode cX7_again 35 = .ok (.iastore, 1) := by decide +kernel
theorem dX7_again_36 : decode cX7_again 36 = .ok (.aload_n 0, 1) := by decide +kernel
theorem dX7_again_37 : decode cX7_again 37 = .ok (.getfield 32, 3) := by decide +kernel
theorem dX7_again_40 : decode cX7_again 40 = .ok (.iload_n 2, 1) := by decide +kernel
theorem dX7_again_41 : decode cX7_again 41 = .ok (.iconst 0, 1) := by decide +kernel
theorem dX7_again_42 : decode cX7_again 42 = .ok (.iastore, 1) := by decide +kernel
theorem dX7_again_43 : decode cX7_again 43 = .ok (.iconst 0, 1) := by decide +kernel
theorem dX7_again_44 : decode cX7_again 44 = .ok (.istore_n 3, 1) := by decide +kernel
theorem dX7_again_45 : decode cX7_again 45 = .ok (.iload_n 3, 1) := by decide +kernel
theorem dX7_again_46 : decode cX7_again 46 = .ok (.iconst 4, 1) := by decide +kernel
theorem dX7_again_47 : decode cX7_again 47 = .ok (.if_icmp .ge 16, 3) := by decide +kernel
theorem dX7_again_50 : decode cX7_again 50 = .ok (.aload_n 0, 1) := by decide +kernel
theorem dX7_again_51 : decode cX7_again 51 = .ok (.iload_n 2, 1) := by decide +kernel
theorem dX7_again_52 : decode cX7_again 52 = .ok (.iload_n 3, 1) := by decide +kernel
theorem dX7_again_53 : decode cX7_again 53 = .ok (.iconst 0, 1) := by decide +kernel
theorem dX7_again_54 : decode cX7_again 54 = .ok (.invokevirtual 156, 3) := by decide +kernel
theorem dX7_again_57 : decode cX7_again 57 = .ok (.iinc 3 1, 3) := by decide +kernel
theorem dX7_again_60 : decode cX7_again 60 = .ok (.goto (-15), 3) := by decide +kernel
theorem dX7_again_63 : decode cX7_again 63 = .ok (.iinc 2 1, 3) := by decide +kernel
theorem dX7_again_66 : decode cX7_again 66 = .ok (.goto (-62), 3) := by decide +kernel
theorem dX7_again_69 : decode cX7_again 69 = .ok (.iload_n 1, 1) := by decide +kernel
theorem dX7_again_70 : decode cX7_again 70 = .ok (.ireturn, 1) := by decide +kernel
theorem dX7_mayWant_0 : decode cX7_mayWant 0 = .ok (.aload_n 0, 1) := by decide +kernel
theorem dX7_mayWant_1 : decode cX7_mayWant 1 = .ok (.dup, 1) := by decide +kernel
theorem dX7_mayWant_2 : decode cX7_mayWant 2 = .ok (.getfield 182, 3) := by decide +kernel
theorem dX7_mayWant_5 : decode cX7_mayWant 5 = .ok (.iconst 1, 1) := by decide +kernel
theorem dX7_mayWant_6 : decode cX7_mayWant 6 = .ok (.iload_n 1, 1) := by decide +kernel
theorem dX7_mayWant_7 : decode cX7_mayWant 7 = .ok (.ishl, 1) := by decide +kernel
theorem dX7_mayWant_8 : decode cX7_mayWant 8 = .ok (.ior, 1) := by decide +kernel
theorem dX7_mayWant_9 : decode cX7_mayWant 9 = .ok (.putfield 182, 3) := by decide +kernel
theorem dX7_mayWant_12 : decode cX7_mayWant 12 = .ok (.aload_n 0, 1) := by decide +kernel
theorem dX7_mayWant_13 : decode cX7_mayWant 13 = .ok (.getfield 81, 3) := by decide +kernel
theorem dX7_mayWant_16 : decode cX7_mayWant 16 = .ok (.iconst 4, 1) := by decide +kernel
theorem dX7_mayWant_17 : decode cX7_mayWant 17 = .ok (.iload_n 1, 1) := by decide +kernel
theorem dX7_mayWant_18 : decode cX7_mayWant 18 = .ok (.imul, 1) := by decide +kernel
theorem dX7_mayWant_19 : decode cX7_mayWant 19 = .ok (.iconst 1, 1) := by decide +kernel
theorem dX7_mayWant_20 : decode cX7_mayWant 20 = .ok (.bastore, 1) := by decide +kernel
theorem dX7_mayWant_21 : decode cX7_mayWant 21 = .ok (.aload_n 0, 1) := by decide +kernel
theorem dX7_mayWant_22 : decode cX7_mayWant 22 = .ok (.getfield 7, 3) := by decide +kernel
theorem dX7_mayWant_25 : decode cX7_mayWant 25 = .ok (.iload_n 1, 1) := by decide +kernel
theorem dX7_mayWant_26 : decode cX7_mayWant 26 = .ok (.baload, 1) := by decide +kernel
theorem dX7_mayWant_27 : decode cX7_mayWant 27 = .ok (.ifCond .ne 39, 3) := by decide +kernel
theorem dX7_mayWant_30 : decode cX7_mayWant 30 = .ok (.aload_n 0, 1) := by decide +kernel
theorem dX7_mayWant_31 : decode cX7_mayWant 31 = .ok (.dup, 1) := by decide +kernel
theorem dX7_mayWant_32 : decode cX7_mayWant 32 = .ok (.getfield 182, 3) := by decide +kernel
theorem dX7_mayWant_35 : decode cX7_mayWant 35 = .ok (.aload_n 0, 1) := by decide +kernel
theorem dX7_mayWant_36 : decode cX7_mayWant 36 = .ok (.getfield 16, 3) := by decide +kernel
theorem dX7_mayWant_39 : decode cX7_mayWant 39 = .ok (.iload_n 1, 1) := by decide +kernel
theorem dX7_mayWant_40 : decode cX7_mayWant 40 = .ok (.iaload, 1) := by decide +kernel
theorem dX7_mayWant_41 : decode cX7_mayWant 41 = .ok (.iconst (-1), 1) := by decide +kernel
theorem dX7_mayWant_42 : decode cX7_mayWant 42 = .ok (.if_icmp .ne 7, 3) := by decide +kernel
theorem dX7_mayWant_45 : decode cX7_mayWant 45 = .ok (.iconst 0, 1) := by decide +kernel
theorem dX7_mayWant_46 : decode cX7_mayWant 46 = .ok (.goto 11, 3) := by decide +kernel
theorem dX7_mayWant_49 : decode cX7_mayWant 49 = .ok (.iconst 1, 1) := by decide +kernel
theorem dX7_mayWant_50 : decode cX7_mayWant 50 = .ok (.aload_n 0, 1) := by decide +kernel
theorem dX7_mayWant_51 : decode cX7_mayWant 51 = .ok (.getfield 16, 3) := by decide +kernel
theorem dX7_mayWant_54 : decode cX7_mayWant 54 = .ok (.iload_n 1, 1) := by decide +kernel
theorem dX7_mayWant_55 : decode cX7_mayWant 55 = .ok (.iaload, 1) := by decide +kernel
theorem dX7_mayWant_56 : decode cX7_mayWant 56 = .ok (.ishl, 1) := by decide +kernel
theorem dX7_mayWant_57 : decode cX7_mayWant 57 = .ok (.ior, 1) := by decide +kernel
theorem dX7_mayWant_58 : decode cX7_mayWant 58 = .ok (.putfield 182, 3) := by decide +kernel
theorem dX7_mayWant_61 : decode cX7_mayWant 61 = .ok (.aload_n 0, 1) := by decide +kernel
theorem dX7_mayWant_62 : decode cX7_mayWant 62 = .ok (.iload_n 1, 1) := by decide +kernel
theorem dX7_mayWant_63 : decode cX7_mayWant 63 = .ok (.invokevirtual 185, 3) := by decide +kernel
theorem dX7_mayWant_66 : decode cX7_mayWant 66 = .ok (.return_, 1) := by decide +kernel
theorem dX7_mayLook_0 : decode cX7_mayLook 0 = .ok (.iconst 1, 1) := by decide +kernel
theorem dX7_mayLook_1 : decode cX7_mayLook 1 = .ok (.iload_n 1, 1) := by decide +kernel
theorem dX7_mayLook_2 : decode cX7_mayLook 2 = .ok (.ishl, 1) := by decide +kernel
theorem dX7_mayLook_3 : decode cX7_mayLook 3 = .ok (.istore_n 2, 1) := by decide +kernel
theorem dX7_mayLook_4 : decode cX7_mayLook 4 = .ok (.iload_n 1, 1) := by decide +kernel
theorem dX7_mayLook_5 : decode cX7_mayLook 5 = .ok (.istore_n 3, 1) := by decide +kernel
theorem dX7_mayLook_6 : decode cX7_mayLook 6 = .ok (.iload_n 3, 1) := by decide +kernel
theorem dX7_mayLook_7 : decode cX7_mayLook 7 = .ok (.ifCond .lt 84, 3) := by decide +kernel
theorem dX7_mayLook_10 : decode cX7_mayLook 10 = .ok (.iload_n 2, 1) := by decide +kernel
theorem dX7_mayLook_11 : decode cX7_mayLook 11 = .ok (.iload_n 3, 1) := by decide +kernel
theorem dX7_mayLook_12 : decode cX7_mayLook 12 = .ok (.ishr, 1) := by decide +kernel
theorem dX7_mayLook_13 : decode cX7_mayLook 13 = .ok (.iconst 1, 1) := by decide +kernel
theorem dX7_mayLook_14 : decode cX7_mayLook 14 = .ok (.iand, 1) := by decide +kernel
theorem dX7_mayLook_15 : decode cX7_mayLook 15 = .ok (.iconst 1, 1) := by decide +kernel
theorem dX7_mayLook_16 : decode cX7_mayLook 16 = .ok (.if_icmp .ne 69, 3) := by decide +kernel
theorem dX7_mayLook_19 : decode cX7_mayLook 19 = .ok (.aload_n 0, 1) := by decide +kernel
theorem dX7_mayLook_20 : decode cX7_mayLook 20 = .ok (.dup, 1) := by decide +kernel
theorem dX7_mayLook_21 : decode cX7_mayLook 21 = .ok (.getfield 182, 3) := by decide +kernel
theorem dX7_mayLook_24 : decode cX7_mayLook 24 = .ok (.iload_n 3, 1) := by decide +kernel
theorem dX7_mayLook_25 : decode cX7_mayLook 25 = .ok (.iload_n 1, 1) := by decide +kernel
theorem dX7_mayLook_26 : decode cX7_mayLook 26 = .ok (.if_icmp .eq 18, 3) := by decide +kernel
theorem dX7_mayLook_29 : decode cX7_mayLook 29 = .ok (.aload_n 0, 1) := by decide +kernel
theorem dX7_mayLook_30 : decode cX7_mayLook 30 = .ok (.getfield 13, 3) := by decide +kernel
theorem dX7_mayLook_33 : decode cX7_mayLook 33 = .ok (.iload_n 3, 1) := by decide +kernel
theorem dX7_mayLook_34 : decode cX7_mayLook 34 = .ok (.baload, 1) := by decide +kernel
theorem dX7_mayLook_35 : decode cX7_mayLook 35 = .ok (.ifCond .eq 9, 3) := by decide +kernel
theorem dX7_mayLook_38 : decode cX7_mayLook 38 = .ok (.iconst 1, 1) := by decide +kernel
theorem dX7_mayLook_39 : decode cX7_mayLook 39 = .ok (.iload_n 3, 1) := by decide +kernel
theorem dX7_mayLook_40 : decode cX7_mayLook 40 = .ok (.ishl, 1) := by decide +kernel
theorem dX7_mayLook_41 : decode cX7_mayLook 41 = .ok (.goto 4, 3) := by decide +kernel
theorem dX7_mayLook_44 : decode cX7_mayLook 44 = .ok (.iconst 0, 1) := by decide +kernel
theorem dX7_mayLook_45 : decode cX7_mayLook 45 = .ok (.ior, 1) := by decide +kernel
theorem dX7_mayLook_46 : decode cX7_mayLook 46 = .ok (.putfield 182, 3) := by decide +kernel
theorem dX7_mayLook_49 : decode cX7_mayLook 49 = .ok (.iconst 0, 1) := by decide +kernel
theorem dX7_mayLook_50 : decode cX7_mayLook 50 = .ok (.istore 4, 2) := by decide +kernel
theorem dX7_mayLook_52 : decode cX7_mayLook 52 = .ok (.iload 4, 2) := by decide +kernel
theorem dX7_mayLook_54 : decode cX7_mayLook 54 = .ok (.aload_n 0, 1) := by decide +kernel
theorem dX7_mayLook_55 : decode cX7_mayLook 55 = .ok (.getfield 20, 3) := by decide +kernel
theorem dX7_mayLook_58 : decode cX7_mayLook 58 = .ok (.iload_n 3, 1) := by decide +kernel
theorem dX7_mayLook_59 : decode cX7_mayLook 59 = .ok (.iaload, 1) := by decide +kernel
theorem dX7_mayLook_60 : decode cX7_mayLook 60 = .ok (.if_icmp .ge 25, 3) := by decide +kernel
theorem dX7_mayLook_63 : decode cX7_mayLook 63 = .ok (.iload_n 2, 1) := by decide +kernel
theorem dX7_mayLook_64 : decode cX7_mayLook 64 = .ok (.iconst 1, 1) := by decide +kernel
theorem dX7_mayLook_65 : decode cX7_mayLook 65 = .ok (.aload_n 0, 1) := by decide +kernel
theorem dX7_mayLook_66 : decode cX7_mayLook 66 = .ok (.getfield 23, 3) := by decide +kernel
theorem dX7_mayLook_69 : decode cX7_mayLook 69 = .ok (.iconst 3, 1) := by decide +kernel
theorem dX7_mayLook_70 : decode cX7_mayLook 70 = .ok (.iload_n 3, 1) := by decide +kernel
theorem dX7_mayLook_71 : decode cX7_mayLook 71 = .ok (.imul, 1) := by decide +kernel
theorem dX7_mayLook_72 : decode cX7_mayLook 72 = .ok (.iload 4, 2) := by decide +kernel
theorem dX7_mayLook_74 : decode cX7_mayLook 74 = .ok (.iadd, 1) := by decide +kernel
theorem dX7_mayLook_75 : decode cX7_mayLook 75 = .ok (.iaload, 1) := by decide +kernel
theorem dX7_mayLook_76 : decode cX7_mayLook 76 = .ok (.ishl, 1) := by decide +kernel
theorem dX7_mayLook_77 : decode cX7_mayLook 77 = .ok (.ior, 1) := by decide +kernel
theorem dX7_mayLook_78 : decode cX7_mayLook 78 = .ok (.istore_n 2, 1) := by decide +kernel
theorem dX7_mayLook_79 : decode cX7_mayLook 79 = .ok (.iinc 4 1, 3) := by decide +kernel
theorem dX7_mayLook_82 : decode cX7_mayLook 82 = .ok (.goto (-30), 3) := by decide +kernel
theorem dX7_mayLook_85 : decode cX7_mayLook 85 = .ok (.iinc 3 (-1), 3) := by decide +kernel
theorem dX7_mayLook_88 : decode cX7_mayLook 88 = .ok (.goto (-82), 3) := by decide +kernel
theorem dX7_mayLook_91 : decode cX7_mayLook 91 = .ok (.return_, 1) := by decide +kernel
theorem dX7_may_0 : decode cX7_may 0 = .ok (.aload_n 0, 1) := by decide +kernel
theorem dX7_may_1 : decode cX7_may 1 = .ok (.iload_n 1, 1) := by decide +kernel
theorem dX7_may_2 : decode cX7_may 2 = .ok (.invokevirtual 87, 3) := by decide +kernel
theorem dX7_may_5 : decode cX7_may 5 = .ok (.ifCond .ne 6, 3) := by decide +kernel
theorem dX7_may_8 : decode cX7_may 8 = .ok (.bipush (-2), 2) := by decide +kernel
theorem dX7_may_10 : decode cX7_may 10 = .ok (.ireturn, 1) := by decide +kernel
theorem dX7_may_11 : decode cX7_may 11 = .ok (.iload_n 2, 1) := by decide +kernel
theorem dX7_may_12 : decode cX7_may 12 = .ok (.ifCond .lt 8, 3) := by decide +kernel
theorem dX7_may_15 : decode cX7_may 15 = .ok (.iload_n 2, 1) := by decide +kernel
theorem dX7_may_16 : decode cX7_may 16 = .ok (.iconst 3, 1) := by decide +kernel
theorem dX7_may_17 : decode cX7_may 17 = .ok (.if_icmp .le 6, 3) := by decide +kernel
theorem dX7_may_20 : decode cX7_may 20 = .ok (.bipush (-3), 2) := by decide +kernel
theorem dX7_may_22 : decode cX7_may 22 = .ok (.ireturn, 1) := by decide +kernel
theorem dX7_may_23 : decode cX7_may 23 = .ok (.iconst 0, 1) := by decide +kernel
theorem dX7_may_24 : decode cX7_may 24 = .ok (.istore_n 3, 1) := by decide +kernel
theorem dX7_may_25 : decode cX7_may 25 = .ok (.iload_n 3, 1) := by decide +kernel
theorem dX7_may_26 : decode cX7_may 26 = .ok (.bipush 48, 2) := by decide +kernel
theorem dX7_may_28 : decode cX7_may 28 = .ok (.if_icmp .ge 16, 3) := by decide +kernel
theorem dX7_may_31 : decode cX7_may 31 = .ok (.aload_n 0, 1) := by decide +kernel
theorem dX7_may_32 : decode cX7_may 32 = .ok (.getfield 81, 3) := by decide +kernel
theorem dX7_may_35 : decode cX7_may 35 = .ok (.iload_n 3, 1) := by decide +kernel
theorem dX7_may_36 : decode cX7_may 36 = .ok (.iconst 0, 1) := by decide +kernel
theorem dX7_may_37 : decode cX7_may 37 = .ok (.bastore, 1) := by decide +kernel
theorem dX7_may_38 : decode cX7_may 38 = .ok (.iinc 3 1, 3) := by decide +kernel
theorem dX7_may_41 : decode cX7_may 41 = .ok (.goto (-16), 3) := by decide +kernel
theorem dX7_may_44 : decode cX7_may 44 = .ok (.aload_n 0, 1) := by decide +kernel
theorem dX7_may_45 : decode cX7_may 45 = .ok (.iconst 1, 1) := by decide +kernel
theorem dX7_may_46 : decode cX7_may 46 = .ok (.iload_n 1, 1) := by decide +kernel
theorem dX7_may_47 : decode cX7_may 47 = .ok (.ishl, 1) := by decide +kernel
theorem dX7_may_48 : decode cX7_may 48 = .ok (.putfield 182, 3) := by decide +kernel
theorem dX7_may_51 : decode cX7_may 51 = .ok (.aload_n 0, 1) := by decide +kernel
theorem dX7_may_52 : decode cX7_may 52 = .ok (.getfield 81, 3) := by decide +kernel
theorem dX7_may_55 : decode cX7_may 55 = .ok (.iconst 4, 1) := by decide +kernel
theorem dX7_may_56 : decode cX7_may 56 = .ok (.iload_n 1, 1) := by decide +kernel
theorem dX7_may_57 : decode cX7_may 57 = .ok (.imul, 1) := by decide +kernel
theorem dX7_may_58 : decode cX7_may 58 = .ok (.iload_n 2, 1) := by decide +kernel
theorem dX7_may_59 : decode cX7_may 59 = .ok (.iadd, 1) := by decide +kernel
theorem dX7_may_60 : decode cX7_may 60 = .ok (.iconst 1, 1) := by decide +kernel
theorem dX7_may_61 : decode cX7_may 61 = .ok (.bastore, 1) := by decide +kernel
theorem dX7_may_62 : decode cX7_may 62 = .ok (.iconst 0, 1) := by decide +kernel
theorem dX7_may_63 : decode cX7_may 63 = .ok (.istore_n 3, 1) := by decide +kernel
theorem dX7_may_64 : decode cX7_may 64 = .ok (.iload_n 3, 1) := by decide +kernel
theorem dX7_may_65 : decode cX7_may 65 = .ok (.bipush 60, 2) := by decide +kernel
theorem dX7_may_67 : decode cX7_may 67 = .ok (.if_icmp .ge 78, 3) := by decide +kernel
theorem dX7_may_70 : decode cX7_may 70 = .ok (.iconst 0, 1) := by decide +kernel
theorem dX7_may_71 : decode cX7_may 71 = .ok (.istore 4, 2) := by decide +kernel
theorem dX7_may_73 : decode cX7_may 73 = .ok (.iload 4, 2) := by decide +kernel
theorem dX7_may_75 : decode cX7_may 75 = .ok (.aload_n 0, 1) := by decide +kernel
theorem dX7_may_76 : decode cX7_may 76 = .ok (.getfield 84, 3) := by decide +kernel
theorem dX7_may_79 : decode cX7_may 79 = .ok (.if_icmp .ge 28, 3) := by decide +kernel
theorem dX7_may_82 : decode cX7_may 82 = .ok (.aload_n 0, 1) := by decide +kernel
theorem dX7_may_83 : decode cX7_may 83 = .ok (.getfield 182, 3) := by decide +kernel
theorem dX7_may_86 : decode cX7_may 86 = .ok (.iload 4, 2) := by decide +kernel
theorem dX7_may_88 : decode cX7_may 88 = .ok (.ishr, 1) := by decide +kernel
theorem dX7_may_89 : decode cX7_may 89 = .ok (.iconst 1, 1) := by decide +kernel
theorem dX7_may_90 : decode cX7_may 90 = .ok (.iand, 1) := by decide +kernel
theorem dX7_may_91 : decode cX7_may 91 = .ok (.iconst 1, 1) := by decide +kernel
theorem dX7_may_92 : decode cX7_may 92 = .ok (.if_icmp .ne 9, 3) := by decide +kernel
theorem dX7_may_95 : decode cX7_may 95 = .ok (.aload_n 0, 1) := by decide +kernel
theorem dX7_may_96 : decode cX7_may 96 = .ok (.iload 4, 2) := by decide +kernel
theorem dX7_may_98 : decode cX7_may 98 = .ok (.invokevirtual 188, 3) := by decide +kernel
theorem dX7_may_101 : decode cX7_may 101 = .ok (.iinc 4 1, 3) := by decide +kernel
theorem dX7_may_104 : decode cX7_may 104 = .ok (.goto (-31), 3) := by decide +kernel
theorem dX7_may_107 : decode cX7_may 107 = .ok (.iconst 0, 1) := by decide +kernel
theorem dX7_may_108 : decode cX7_may 108 = .ok (.istore 4, 2) := by decide +kernel
theorem dX7_may_110 : decode cX7_may 110 = .ok (.iload 4, 2) := by decide +kernel
theorem dX7_may_112 : decode cX7_may 112 = .ok (.bipush 48, 2) := by decide +kernel
theorem dX7_may_114 : decode cX7_may 114 = .ok (.if_icmp .ge 25, 3) := by decide +kernel
theorem dX7_may_117 : decode cX7_may 117 = .ok (.aload_n 0, 1) := by decide +kernel
theorem dX7_may_118 : decode cX7_may 118 = .ok (.getfield 81, 3) := by decide +kernel
theorem dX7_may_121 : decode cX7_may 121 = .ok (.iload 4, 2) := by decide +kernel
theorem dX7_may_123 : decode cX7_may 123 = .ok (.baload, 1) := by decide +kernel
theorem dX7_may_124 : decode cX7_may 124 = .ok (.ifCond .eq 9, 3) := by decide +kernel
theorem dX7_may_127 : decode cX7_may 127 = .ok (.aload_n 0, 1) := by decide +kernel
theorem dX7_may_128 : decode cX7_may 128 = .ok (.iload 4, 2) := by decide +kernel
theorem dX7_may_130 : decode cX7_may 130 = .ok (.invokevirtual 191, 3) := by decide +kernel
theorem dX7_may_133 : decode cX7_may 133 = .ok (.iinc 4 1, 3) := by decide +kernel
theorem dX7_may_136 : decode cX7_may 136 = .ok (.goto (-26), 3) := by decide +kernel
theorem dX7_may_139 : decode cX7_may 139 = .ok (.iinc 3 1, 3) := by decide +kernel
theorem dX7_may_142 : decode cX7_may 142 = .ok (.goto (-78), 3) := by decide +kernel
theorem dX7_may_145 : decode cX7_may 145 = .ok (.aload_n 0, 1) := by decide +kernel
theorem dX7_may_146 : decode cX7_may 146 = .ok (.getfield 182, 3) := by decide +kernel
theorem dX7_may_149 : decode cX7_may 149 = .ok (.ireturn, 1) := by decide +kernel
theorem dX7_mayActs_0 : decode cX7_mayActs 0 = .ok (.iconst 0, 1) := by decide +kernel
theorem dX7_mayActs_1 : decode cX7_mayActs 1 = .ok (.istore_n 2, 1) := by decide +kernel
theorem dX7_mayActs_2 : decode cX7_mayActs 2 = .ok (.iload_n 2, 1) := by decide +kernel
theorem dX7_mayActs_3 : decode cX7_mayActs 3 = .ok (.aload_n 0, 1) := by decide +kernel
theorem dX7_mayActs_4 : decode cX7_mayActs 4 = .ok (.getfield 38, 3) := by decide +kernel
theorem dX7_mayActs_7 : decode cX7_mayActs 7 = .ok (.iload_n 1, 1) := by decide +kernel
theorem dX7_mayActs_8 : decode cX7_mayActs 8 = .ok (.iaload, 1) := by decide +kernel
theorem dX7_mayActs_9 : decode cX7_mayActs 9 = .ok (.if_icmp .ge 151, 3) := by decide +kernel
theorem dX7_mayActs_12 : decode cX7_mayActs 12 = .ok (.bipush 40, 2) := by decide +kernel
theorem dX7_mayActs_14 : decode cX7_mayActs 14 = .ok (.iload_n 1, 1) := by decide +kernel
theorem dX7_mayActs_15 : decode cX7_mayActs 15 = .ok (.imul, 1) := by decide +kernel
theorem dX7_mayActs_16 : decode cX7_mayActs 16 = .ok (.iconst 4, 1) := by decide +kernel
theorem dX7_mayActs_17 : decode cX7_mayActs 17 = .ok (.iload_n 2, 1) := by decide +kernel
theorem dX7_mayActs_18 : decode cX7_mayActs 18 = .ok (.imul, 1) := by decide +kernel
theorem dX7_mayActs_19 : decode cX7_mayActs 19 = .ok (.iadd, 1) := by decide +kernel
theorem dX7_mayActs_20 : decode cX7_mayActs 20 = .ok (.istore_n 3, 1) := by decide +kernel
theorem dX7_mayActs_21 : decode cX7_mayActs 21 = .ok (.aload_n 0, 1) := by decide +kernel
theorem dX7_mayActs_22 : decode cX7_mayActs 22 = .ok (.getfield 41, 3) := by decide +kernel
theorem dX7_mayActs_25 : decode cX7_mayActs 25 = .ok (.iload_n 3, 1) := by decide +kernel
theorem dX7_mayActs_26 : decode cX7_mayActs 26 = .ok (.iaload, 1) := by decide +kernel
theorem dX7_mayActs_27 : decode cX7_mayActs 27 = .ok (.istore 4, 2) := by decide +kernel
theorem dX7_mayActs_29 : decode cX7_mayActs 29 = .ok (.aload_n 0, 1) := by decide +kernel
theorem dX7_mayActs_30 : decode cX7_mayActs 30 = .ok (.getfield 41, 3) := by decide +kernel
theorem dX7_mayActs_33 : decode cX7_mayActs 33 = .ok (.iload_n 3, 1) := by decide +kernel
theorem dX7_mayActs_34 : decode cX7_mayActs 34 = .ok (.iconst 1, 1) := by decide +kernel
theorem dX7_mayActs_35 : decode cX7_mayActs 35 = .ok (.iadd, 1) := by decide +kernel
theorem dX7_mayActs_36 : decode cX7_mayActs 36 = .ok (.iaload, 1) := by decide +kernel
theorem dX7_mayActs_37 : decode cX7_mayActs 37 = .ok (.istore 5, 2) := by decide +kernel
theorem dX7_mayActs_39 : decode cX7_mayActs 39 = .ok (.aload_n 0, 1) := by decide +kernel
theorem dX7_mayActs_40 : decode cX7_mayActs 40 = .ok (.getfield 41, 3) := by decide +kernel
theorem dX7_mayActs_43 : decode cX7_mayActs 43 = .ok (.iload_n 3, 1) := by decide +kernel
theorem dX7_mayActs_44 : decode cX7_mayActs 44 = .ok (.iconst 2, 1) := by decide +kernel
theorem dX7_mayActs_45 : decode cX7_mayActs 45 = .ok (.iadd, 1) := by decide +kernel
theorem dX7_mayActs_46 : decode cX7_mayActs 46 = .ok (.iaload, 1) := by decide +kernel
theorem dX7_mayActs_47 : decode cX7_mayActs 47 = .ok (.istore 6, 2) := by decide +kernel
theorem dX7_mayActs_49 : decode cX7_mayActs 49 = .ok (.iload 4, 2) := by decide +kernel
theorem dX7_mayActs_51 : decode cX7_mayActs 51 = .ok (.iconst 1, 1) := by decide +kernel
theorem dX7_mayActs_52 : decode cX7_mayActs 52 = .ok (.if_icmp .lt 46, 3) := by decide +kernel
theorem dX7_mayActs_55 : decode cX7_mayActs 55 = .ok (.iload 4, 2) := by decide +kernel
theorem dX7_mayActs_57 : decode cX7_mayActs 57 = .ok (.iconst 3, 1) := by decide +kernel
theorem dX7_mayActs_58 : decode cX7_mayActs 58 = .ok (.if_icmp .gt 40, 3) := by decide +kernel
theorem dX7_mayActs_61 : decode cX7_mayActs 61 = .ok (.aload_n 0, 1) := by decide +kernel
theorem dX7_mayActs_62 : decode cX7_mayActs 62 = .ok (.getfield 29, 3) := by decide +kernel
theorem dX7_mayActs_65 : decode cX7_mayActs 65 = .ok (.iconst 4, 1) := by decide +kernel
theorem dX7_mayActs_66 : decode cX7_mayActs 66 = .ok (.iload 6, 2) := by decide +kernel
theorem dX7_mayActs_68 : decode cX7_mayActs 68 = .ok (.imul, 1) := by decide +kernel
theorem dX7_mayActs_69 : decode cX7_mayActs 69 = .ok (.aload_n 0, 1) := by decide +kernel
theorem dX7_mayActs_70 : decode cX7_mayActs 70 = .ok (.getfield 41, 3) := by decide +kernel
theorem dX7_mayActs_73 : decode cX7_mayActs 73 = .ok (.iload_n 3, 1) := by decide +kernel
theorem dX7_mayActs_74 : decode cX7_mayActs 74 = .ok (.iconst 3, 1) := by decide +kernel
theorem dX7_mayActs_75 : decode cX7_mayActs 75 = .ok (.iadd, 1) := by decide +kernel
theorem dX7_mayActs_76 : decode cX7_mayActs 76 = .ok (.iaload, 1) := by decide +kernel
theorem dX7_mayActs_77 : decode cX7_mayActs 77 = .ok (.iadd, 1) := by decide +kernel
theorem dX7_mayActs_78 : decode cX7_mayActs 78 = .ok (.baload, 1) := by decide +kernel
theorem dX7_mayActs_79 : decode cX7_mayActs 79 = .ok (.ifCond .ne 19, 3) := by decide +kernel
theorem dX7_mayActs_82 : decode cX7_mayActs 82 = .ok (.aload_n 0, 1) := by decide +kernel
theorem dX7_mayActs_83 : decode cX7_mayActs 83 = .ok (.dup, 1) := by decide +kernel
theorem dX7_mayActs_84 : decode cX7_mayActs 84 = .ok (.getfield 182, 3) := by decide +kernel
theorem dX7_mayActs_87 : decode cX7_mayActs 87 = .ok (.iconst 1, 1) := by decide +kernel
theorem dX7_mayActs_88 : decode cX7_mayActs 88 = .ok (.iload 6, 2) := by decide +kernel
theorem dX7_mayActs_90 : decode cX7_mayActs 90 = .ok (.ishl, 1) := by decide +kernel
theorem dX7_mayActs_91 : decode cX7_mayActs 91 = .ok (.ior, 1) := by decide +kernel
theorem dX7_mayActs_92 : decode cX7_mayActs 92 = .ok (.putfield 182, 3) := by decide +kernel
theorem dX7_mayActs_95 : decode cX7_mayActs 95 = .ok (.goto 59, 3) := by decide +kernel
theorem dX7_mayActs_98 : decode cX7_mayActs 98 = .ok (.iload 4, 2) := by decide +kernel
theorem dX7_mayActs_100 : decode cX7_mayActs 100 = .ok (.bipush 7, 2) := by decide +kernel
theorem dX7_mayActs_102 : decode cX7_mayActs 102 = .ok (.if_icmp .ne 32, 3) := by decide +kernel
theorem dX7_mayActs_105 : decode cX7_mayActs 105 = .ok (.aload_n 0, 1) := by decide +kernel
theorem dX7_mayActs_106 : decode cX7_mayActs 106 = .ok (.dup, 1) := by decide +kernel
theorem dX7_mayActs_107 : decode cX7_mayActs 107 = .ok (.getfield 182, 3) := by decide +kernel
theorem dX7_mayActs_110 : decode cX7_mayActs 110 = .ok (.iconst 1, 1) := by decide +kernel
theorem dX7_mayActs_111 : decode cX7_mayActs 111 = .ok (.iload 5, 2) := by decide +kernel
theorem dX7_mayActs_113 : decode cX7_mayActs 113 = .ok (.ishl, 1) := by decide +kernel
theorem dX7_mayActs_114 : decode cX7_mayActs 114 = .ok (.ior, 1) := by decide +kernel
theorem dX7_mayActs_115 : decode cX7_mayActs 115 = .ok (.putfield 182, 3) := by decide +kernel
theorem dX7_mayActs_118 : decode cX7_mayActs 118 = .ok (.aload_n 0, 1) := by decide +kernel
theorem dX7_mayActs_119 : decode cX7_mayActs 119 = .ok (.getfield 81, 3) := by decide +kernel
theorem dX7_mayActs_122 : decode cX7_mayActs 122 = .ok (.iconst 4, 1) := by decide +kernel
theorem dX7_mayActs_123 : decode cX7_mayActs 123 = .ok (.iload 5, 2) := by decide +kernel
theorem dX7_mayActs_125 : decode cX7_mayActs 125 = .ok (.imul, 1) := by decide +kernel
theorem dX7_mayActs_126 : decode cX7_mayActs 126 = .ok (.iload 6, 2) := by decide +kernel
theorem dX7_mayActs_128 : decode cX7_mayActs 128 = .ok (.iadd, 1) := by decide +kernel
theorem dX7_mayActs_129 : decode cX7_mayActs 129 = .ok (.iconst 1, 1) := by decide +kernel
theorem dX7_mayActs_130 : decode cX7_mayActs 130 = .ok (.bastore, 1) := by decide +kernel
theorem dX7_mayActs_131 : decode cX7_mayActs 131 = .ok (.goto 23, 3) := by decide +kernel
theorem dX7_mayActs_134 : decode cX7_mayActs 134 = .ok (.iload 4, 2) := by decide +kernel
theorem dX7_mayActs_136 : decode cX7_mayActs 136 = .ok (.bipush 8, 2) := by decide +kernel
theorem dX7_mayActs_138 : decode cX7_mayActs 138 = .ok (.if_icmp .ne 16, 3) := by decide +kernel
theorem dX7_mayActs_141 : decode cX7_mayActs 141 = .ok (.aload_n 0, 1) := by decide +kernel
theorem dX7_mayActs_142 : decode cX7_mayActs 142 = .ok (.dup, 1) := by decide +kernel
theorem dX7_mayActs_143 : decode cX7_mayActs 143 = .ok (.getfield 182, 3) := by decide +kernel
theorem dX7_mayActs_146 : decode cX7_mayActs 146 = .ok (.iconst 1, 1) := by decide +kernel
theorem dX7_mayActs_147 : decode cX7_mayActs 147 = .ok (.iload 5, 2) := by decide +kernel
theorem dX7_mayActs_149 : decode cX7_mayActs 149 = .ok (.ishl, 1) := by decide +kernel
theorem dX7_mayActs_150 : decode cX7_mayActs 150 = .ok (.ior, 1) := by decide +kernel
theorem dX7_mayActs_151 : decode cX7_mayActs 151 = .ok (.putfield 182, 3) := by decide +kernel
theorem dX7_mayActs_154 : decode cX7_mayActs 154 = .ok (.iinc 2 1, 3) := by decide +kernel
theorem dX7_mayActs_157 : decode cX7_mayActs 157 = .ok (.goto (-155), 3) := by decide +kernel
theorem dX7_mayActs_160 : decode cX7_mayActs 160 = .ok (.return_, 1) := by decide +kernel
theorem dX7_ahead_0 : decode cX7_ahead 0 = .ok (.aload_n 0, 1) := by decide +kernel
theorem dX7_ahead_1 : decode cX7_ahead 1 = .ok (.iload_n 1, 1) := by decide +kernel
theorem dX7_ahead_2 : decode cX7_ahead 2 = .ok (.invokevirtual 87, 3) := by decide +kernel
theorem dX7_ahead_5 : decode cX7_ahead 5 = .ok (.ifCond .eq 11, 3) := by decide +kernel
theorem dX7_ahead_8 : decode cX7_ahead 8 = .ok (.aload_n 0, 1) := by decide +kernel
theorem dX7_ahead_9 : decode cX7_ahead 9 = .ok (.iload_n 2, 1) := by decide +kernel
theorem dX7_ahead_10 : decode cX7_ahead 10 = .ok (.invokevirtual 87, 3) := by decide +kernel
theorem dX7_ahead_13 : decode cX7_ahead 13 = .ok (.ifCond .ne 6, 3) := by decide +kernel
theorem dX7_ahead_16 : decode cX7_ahead 16 = .ok (.bipush (-2), 2) := by decide +kernel
theorem dX7_ahead_18 : decode cX7_ahead 18 = .ok (.ireturn, 1) := by decide +kernel
theorem dX7_ahead_19 : decode cX7_ahead 19 = .ok (.iconst 0, 1) := by decide +kernel
theorem dX7_ahead_20 : decode cX7_ahead 20 = .ok (.istore_n 3, 1) := by decide +kernel
theorem dX7_ahead_21 : decode cX7_ahead 21 = .ok (.iload_n 1, 1) := by decide +kernel
theorem dX7_ahead_22 : decode cX7_ahead 22 = .ok (.istore 4, 2) := by decide +kernel
theorem dX7_ahead_24 : decode cX7_ahead 24 = .ok (.iload 4, 2) := by decide +kernel
theorem dX7_ahead_26 : decode cX7_ahead 26 = .ok (.iconst (-1), 1) := by decide +kernel
theorem dX7_ahead_27 : decode cX7_ahead 27 = .ok (.if_icmp .eq 59, 3) := by decide +kernel
theorem dX7_ahead_30 : decode cX7_ahead 30 = .ok (.aload_n 0, 1) := by decide +kernel
theorem dX7_ahead_31 : decode cX7_ahead 31 = .ok (.getfield 7, 3) := by decide +kernel
theorem dX7_ahead_34 : decode cX7_ahead 34 = .ok (.iload_n 1, 1) := by decide +kernel
theorem dX7_ahead_35 : decode cX7_ahead 35 = .ok (.baload, 1) := by decide +kernel
theorem dX7_ahead_36 : decode cX7_ahead 36 = .ok (.ifCond .ne 50, 3) := by decide +kernel
theorem dX7_ahead_39 : decode cX7_ahead 39 = .ok (.aload_n 0, 1) := by decide +kernel
theorem dX7_ahead_40 : decode cX7_ahead 40 = .ok (.iconst 0, 1) := by decide +kernel
theorem dX7_ahead_41 : decode cX7_ahead 41 = .ok (.putfield 182, 3) := by decide +kernel
theorem dX7_ahead_44 : decode cX7_ahead 44 = .ok (.aload_n 0, 1) := by decide +kernel
theorem dX7_ahead_45 : decode cX7_ahead 45 = .ok (.iload 4, 2) := by decide +kernel
theorem dX7_ahead_47 : decode cX7_ahead 47 = .ok (.invokevirtual 185, 3) := by decide +kernel
theorem dX7_ahead_50 : decode cX7_ahead 50 = .ok (.iload_n 3, 1) := by decide +kernel
theorem dX7_ahead_51 : decode cX7_ahead 51 = .ok (.aload_n 0, 1) := by decide +kernel
theorem dX7_ahead_52 : decode cX7_ahead 52 = .ok (.getfield 182, 3) := by decide +kernel
theorem dX7_ahead_55 : decode cX7_ahead 55 = .ok (.ior, 1) := by decide +kernel
theorem dX7_ahead_56 : decode cX7_ahead 56 = .ok (.istore_n 3, 1) := by decide +kernel
theorem dX7_ahead_57 : decode cX7_ahead 57 = .ok (.aload_n 0, 1) := by decide +kernel
theorem dX7_ahead_58 : decode cX7_ahead 58 = .ok (.getfield 16, 3) := by decide +kernel
theorem dX7_ahead_61 : decode cX7_ahead 61 = .ok (.iload 4, 2) := by decide +kernel
theorem dX7_ahead_63 : decode cX7_ahead 63 = .ok (.iaload, 1) := by decide +kernel
theorem dX7_ahead_64 : decode cX7_ahead 64 = .ok (.istore 4, 2) := by decide +kernel
theorem dX7_ahead_66 : decode cX7_ahead 66 = .ok (.iload_n 3, 1) := by decide +kernel
theorem dX7_ahead_67 : decode cX7_ahead 67 = .ok (.iload 4, 2) := by decide +kernel
theorem dX7_ahead_69 : decode cX7_ahead 69 = .ok (.iconst (-1), 1) := by decide +kernel
theorem dX7_ahead_70 : decode cX7_ahead 70 = .ok (.if_icmp .ne 7, 3) := by decide +kernel
theorem dX7_ahead_73 : decode cX7_ahead 73 = .ok (.iconst 0, 1) := by decide +kernel
theorem dX7_ahead_74 : decode cX7_ahead 74 = .ok (.goto 7, 3) := by decide +kernel
theorem dX7_ahead_77 : decode cX7_ahead 77 = .ok (.iconst 1, 1) := by decide +kernel
theorem dX7_ahead_78 : decode cX7_ahead 78 = .ok (.iload 4, 2) := by decide +kernel
theorem dX7_ahead_80 : decode cX7_ahead 80 = .ok (.ishl, 1) := by decide +kernel
theorem dX7_ahead_81 : decode cX7_ahead 81 = .ok (.ior, 1) := by decide +kernel
theorem dX7_ahead_82 : decode cX7_ahead 82 = .ok (.istore_n 3, 1) := by decide +kernel
theorem dX7_ahead_83 : decode cX7_ahead 83 = .ok (.goto (-59), 3) := by decide +kernel
theorem dX7_ahead_86 : decode cX7_ahead 86 = .ok (.iload_n 3, 1) := by decide +kernel
theorem dX7_ahead_87 : decode cX7_ahead 87 = .ok (.iload_n 2, 1) := by decide +kernel
theorem dX7_ahead_88 : decode cX7_ahead 88 = .ok (.ishr, 1) := by decide +kernel
theorem dX7_ahead_89 : decode cX7_ahead 89 = .ok (.iconst 1, 1) := by decide +kernel
theorem dX7_ahead_90 : decode cX7_ahead 90 = .ok (.iand, 1) := by decide +kernel
theorem dX7_ahead_91 : decode cX7_ahead 91 = .ok (.ireturn, 1) := by decide +kernel
