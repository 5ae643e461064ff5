theorem dX6_init_0 : decode cX6_init 0 = .ok (.aload_n 0, 1) := by decide +kernel
theorem dX6_init_1 : decode cX6_init 1 = .ok (.invokespecial 1, 3) := by decide +kernel
theorem dX6_init_4 : decode cX6_init 4 = .ok (.aload_n 0, 1) := by decide +kernel
theorem dX6_init_5 : decode cX6_init 5 = .ok (.bipush 12, 2) := by decide +kernel
theorem dX6_init_7 : decode cX6_init 7 = .ok (.anewarray 9, 3) := by decide +kernel
theorem dX6_init_10 : decode cX6_init 10 = .ok (.putfield 11, 3) := by decide +kernel
theorem dX6_init_13 : decode cX6_init 13 = .ok (.aload_n 0, 1) := by decide +kernel
theorem dX6_init_14 : decode cX6_init 14 = .ok (.iconst 0, 1) := by decide +kernel
theorem dX6_init_15 : decode cX6_init 15 = .ok (.putfield 15, 3) := by decide +kernel
theorem dX6_init_18 : decode cX6_init 18 = .ok (.aload_n 0, 1) := by decide +kernel
theorem dX6_init_19 : decode cX6_init 19 = .ok (.new 19, 3) := by decide +kernel
theorem dX6_init_22 : decode cX6_init 22 = .ok (.dup, 1) := by decide +kernel
theorem dX6_init_23 : decode cX6_init 23 = .ok (.invokespecial 21, 3) := by decide +kernel
theorem dX6_init_26 : decode cX6_init 26 = .ok (.putfield 22, 3) := by decide +kernel
theorem dX6_init_29 : decode cX6_init 29 = .ok (.aload_n 0, 1) := by decide +kernel
theorem dX6_init_30 : decode cX6_init 30 = .ok (.new 26, 3) := by decide +kernel
theorem dX6_init_33 : decode cX6_init 33 = .ok (.dup, 1) := by decide +kernel
theorem dX6_init_34 : decode cX6_init 34 = .ok (.invokespecial 28, 3) := by decide +kernel
theorem dX6_init_37 : decode cX6_init 37 = .ok (.putfield 29, 3) := by decide +kernel
theorem dX6_init_40 : decode cX6_init 40 = .ok (.return_, 1) := by decide +kernel
theorem dX6_made_0 : decode cX6_made 0 = .ok (.aload_n 0, 1) := by decide +kernel
theorem dX6_made_1 : decode cX6_made 1 = .ok (.iload_n 1, 1) := by decide +kernel
theorem dX6_made_2 : decode cX6_made 2 = .ok (.invokevirtual 33, 3) := by decide +kernel
theorem dX6_made_5 : decode cX6_made 5 = .ok (.astore_n 2, 1) := by decide +kernel
theorem dX6_made_6 : decode cX6_made 6 = .ok (.iload_n 1, 1) := by decide +kernel
theorem dX6_made_7 : decode cX6_made 7 = .ok (.iconst (-1), 1) := by decide +kernel
theorem dX6_made_8 : decode cX6_made 8 = .ok (.if_icmp .eq 10, 3) := by decide +kernel
theorem dX6_made_11 : decode cX6_made 11 = .ok (.aload_n 2, 1) := by decide +kernel
theorem dX6_made_12 : decode cX6_made 12 = .ok (.ifnonnull 6, 3) := by decide +kernel
theorem dX6_made_15 : decode cX6_made 15 = .ok (.bipush (-2), 2) := by decide +kernel
theorem dX6_made_17 : decode cX6_made 17 = .ok (.ireturn, 1) := by decide +kernel
theorem dX6_made_18 : decode cX6_made 18 = .ok (.aload_n 2, 1) := by decide +kernel
theorem dX6_made_19 : decode cX6_made 19 = .ok (.ifnull 13, 3) := by decide +kernel
theorem dX6_made_22 : decode cX6_made 22 = .ok (.aload_n 2, 1) := by decide +kernel
theorem dX6_made_23 : decode cX6_made 23 = .ok (.getfield 37, 3) := by decide +kernel
theorem dX6_made_26 : decode cX6_made 26 = .ok (.ifCond .eq 6, 3) := by decide +kernel
theorem dX6_made_29 : decode cX6_made 29 = .ok (.bipush (-4), 2) := by decide +kernel
theorem dX6_made_31 : decode cX6_made 31 = .ok (.ireturn, 1) := by decide +kernel
theorem dX6_made_32 : decode cX6_made 32 = .ok (.aload_n 0, 1) := by decide +kernel
theorem dX6_made_33 : decode cX6_made 33 = .ok (.iconst 0, 1) := by decide +kernel
theorem dX6_made_34 : decode cX6_made 34 = .ok (.iconst 0, 1) := by decide +kernel
theorem dX6_made_35 : decode cX6_made 35 = .ok (.aload_n 2, 1) := by decide +kernel
theorem dX6_made_36 : decode cX6_made 36 = .ok (.invokevirtual 41, 3) := by decide +kernel
theorem dX6_made_39 : decode cX6_made 39 = .ok (.ireturn, 1) := by decide +kernel
theorem dX6_face_0 : decode cX6_face 0 = .ok (.aload_n 0, 1) := by decide +kernel
theorem dX6_face_1 : decode cX6_face 1 = .ok (.iconst 1, 1) := by decide +kernel
theorem dX6_face_2 : decode cX6_face 2 = .ok (.iload_n 1, 1) := by decide +kernel
theorem dX6_face_3 : decode cX6_face 3 = .ok (.aconst_null, 1) := by decide +kernel
theorem dX6_face_4 : decode cX6_face 4 = .ok (.invokevirtual 41, 3) := by decide +kernel
theorem dX6_face_7 : decode cX6_face 7 = .ok (.ireturn, 1) := by decide +kernel
theorem dX6_bears_0 : decode cX6_bears 0 = .ok (.aload_n 0, 1) := by decide +kernel
theorem dX6_bears_1 : decode cX6_bears 1 = .ok (.iload_n 1, 1) := by decide +kernel
theorem dX6_bears_2 : decode cX6_bears 2 = .ok (.invokevirtual 33, 3) := by decide +kernel
theorem dX6_bears_5 : decode cX6_bears 5 = .ok (.astore_n 3, 1) := by decide +kernel
theorem dX6_bears_6 : decode cX6_bears 6 = .ok (.aload_n 0, 1) := by decide +kernel
theorem dX6_bears_7 : decode cX6_bears 7 = .ok (.iload_n 2, 1) := by decide +kernel
theorem dX6_bears_8 : decode cX6_bears 8 = .ok (.invokevirtual 33, 3) := by decide +kernel
theorem dX6_bears_11 : decode cX6_bears 11 = .ok (.astore 4, 2) := by decide +kernel
theorem dX6_bears_13 : decode cX6_bears 13 = .ok (.aload_n 3, 1) := by decide +kernel
theorem dX6_bears_14 : decode cX6_bears 14 = .ok (.ifnull 8, 3) := by decide +kernel
theorem dX6_bears_17 : decode cX6_bears 17 = .ok (.aload 4, 2) := by decide +kernel
theorem dX6_bears_19 : decode cX6_bears 19 = .ok (.ifnonnull 6, 3) := by decide +kernel
theorem dX6_bears_22 : decode cX6_bears 22 = .ok (.bipush (-2), 2) := by decide +kernel
theorem dX6_bears_24 : decode cX6_bears 24 = .ok (.ireturn, 1) := by decide +kernel
theorem dX6_bears_25 : decode cX6_bears 25 = .ok (.aload 4, 2) := by decide +kernel
theorem dX6_bears_27 : decode cX6_bears 27 = .ok (.getfield 37, 3) := by decide +kernel
theorem dX6_bears_30 : decode cX6_bears 30 = .ok (.ifCond .eq 34, 3) := by decide +kernel
theorem dX6_bears_33 : decode cX6_bears 33 = .ok (.aload 4, 2) := by decide +kernel
theorem dX6_bears_35 : decode cX6_bears 35 = .ok (.getfield 45, 3) := by decide +kernel
theorem dX6_bears_38 : decode cX6_bears 38 = .ok (.aload_n 3, 1) := by decide +kernel
theorem dX6_bears_39 : decode cX6_bears 39 = .ok (.getfield 45, 3) := by decide +kernel
theorem dX6_bears_42 : decode cX6_bears 42 = .ok (.if_icmp .ge 22, 3) := by decide +kernel
theorem dX6_bears_45 : decode cX6_bears 45 = .ok (.aload_n 3, 1) := by decide +kernel
theorem dX6_bears_46 : decode cX6_bears 46 = .ok (.aload 4, 2) := by decide +kernel
theorem dX6_bears_48 : decode cX6_bears 48 = .ok (.getfield 45, 3) := by decide +kernel
theorem dX6_bears_51 : decode cX6_bears 51 = .ok (.invokevirtual 48, 3) := by decide +kernel
theorem dX6_bears_54 : decode cX6_bears 54 = .ok (.ifCond .ne 10, 3) := by decide +kernel
theorem dX6_bears_57 : decode cX6_bears 57 = .ok (.aload_n 3, 1) := by decide +kernel
theorem dX6_bears_58 : decode cX6_bears 58 = .ok (.getfield 52, 3) := by decide +kernel
theorem dX6_bears_61 : decode cX6_bears 61 = .ok (.ifCond .eq 6, 3) := by decide +kernel
theorem dX6_bears_64 : decode cX6_bears 64 = .ok (.bipush (-4), 2) := by decide +kernel
theorem dX6_bears_66 : decode cX6_bears 66 = .ok (.ireturn, 1) := by decide +kernel
theorem dX6_bears_67 : decode cX6_bears 67 = .ok (.aload_n 3, 1) := by decide +kernel
theorem dX6_bears_68 : decode cX6_bears 68 = .ok (.aload 4, 2) := by decide +kernel
theorem dX6_bears_70 : decode cX6_bears 70 = .ok (.invokevirtual 55, 3) := by decide +kernel
theorem dX6_bears_73 : decode cX6_bears 73 = .ok (.ireturn, 1) := by decide +kernel
theorem dX6_constant_0 : decode cX6_constant 0 = .ok (.aload_n 0, 1) := by decide +kernel
theorem dX6_constant_1 : decode cX6_constant 1 = .ok (.iload_n 1, 1) := by decide +kernel
theorem dX6_constant_2 : decode cX6_constant 2 = .ok (.invokevirtual 33, 3) := by decide +kernel
theorem dX6_constant_5 : decode cX6_constant 5 = .ok (.astore 4, 2) := by decide +kernel
theorem dX6_constant_7 : decode cX6_constant 7 = .ok (.aload 4, 2) := by decide +kernel
theorem dX6_constant_9 : decode cX6_constant 9 = .ok (.ifnonnull 6, 3) := by decide +kernel
theorem dX6_constant_12 : decode cX6_constant 12 = .ok (.bipush (-2), 2) := by decide +kernel
theorem dX6_constant_14 : decode cX6_constant 14 = .ok (.ireturn, 1) := by decide +kernel
theorem dX6_constant_15 : decode cX6_constant 15 = .ok (.iload_n 2, 1) := by decide +kernel
theorem dX6_constant_16 : decode cX6_constant 16 = .ok (.invokestatic 59, 3) := by decide +kernel
theorem dX6_constant_19 : decode cX6_constant 19 = .ok (.ifCond .ne 6, 3) := by decide +kernel
theorem dX6_constant_22 : decode cX6_constant 22 = .ok (.bipush (-3), 2) := by decide +kernel
theorem dX6_constant_24 : decode cX6_constant 24 = .ok (.ireturn, 1) := by decide +kernel
theorem dX6_constant_25 : decode cX6_constant 25 = .ok (.aload 4, 2) := by decide +kernel
theorem dX6_constant_27 : decode cX6_constant 27 = .ok (.iload_n 2, 1) := by decide +kernel
theorem dX6_constant_28 : decode cX6_constant 28 = .ok (.invokevirtual 62, 3) := by decide +kernel
theorem dX6_constant_31 : decode cX6_constant 31 = .ok (.ifCond .ne 11, 3) := by decide +kernel
theorem dX6_constant_34 : decode cX6_constant 34 = .ok (.aload 4, 2) := by decide +kernel
theorem dX6_constant_36 : decode cX6_constant 36 = .ok (.getfield 52, 3) := by decide +kernel
theorem dX6_constant_39 : decode cX6_constant 39 = .ok (.ifCond .eq 6, 3) := by decide +kernel
theorem dX6_constant_42 : decode cX6_constant 42 = .ok (.bipush (-4), 2) := by decide +kernel
theorem dX6_constant_44 : decode cX6_constant 44 = .ok (.ireturn, 1) := by decide +kernel
theorem dX6_constant_45 : decode cX6_constant 45 = .ok (.aload 4, 2) := by decide +kernel
theorem dX6_constant_47 : decode cX6_constant 47 = .ok (.iload_n 2, 1) := by decide +kernel
theorem dX6_constant_48 : decode cX6_constant 48 = .ok (.iload_n 3, 1) := by decide +kernel
theorem dX6_constant_49 : decode cX6_constant 49 = .ok (.invokevirtual 65, 3) := by decide +kernel
theorem dX6_constant_52 : decode cX6_constant 52 = .ok (.iconst 1, 1) := by decide +kernel
theorem dX6_constant_53 : decode cX6_constant 53 = .ok (.ireturn, 1) := by decide +kernel
theorem dX6_act_0 : decode cX6_act 0 = .ok (.aload_n 0, 1) := by decide +kernel
theorem dX6_act_1 : decode cX6_act 1 = .ok (.iload_n 1, 1) := by decide +kernel
theorem dX6_act_2 : decode cX6_act 2 = .ok (.invokevirtual 33, 3) := by decide +kernel
theorem dX6_act_5 : decode cX6_act 5 = .ok (.astore 7, 2) := by decide +kernel
theorem dX6_act_7 : decode cX6_act 7 = .ok (.aload 7, 2) := by decide +kernel
theorem dX6_act_9 : decode cX6_act 9 = .ok (.ifnonnull 6, 3) := by decide +kernel
theorem dX6_act_12 : decode cX6_act 12 = .ok (.bipush (-2), 2) := by decide +kernel
theorem dX6_act_14 : decode cX6_act 14 = .ok (.ireturn, 1) := by decide +kernel
theorem dX6_act_15 : decode cX6_act 15 = .ok (.aload_n 0, 1) := by decide +kernel
theorem dX6_act_16 : decode cX6_act 16 = .ok (.aload 7, 2) := by decide +kernel
theorem dX6_act_18 : decode cX6_act 18 = .ok (.iload_n 3, 1) := by decide +kernel
theorem dX6_act_19 : decode cX6_act 19 = .ok (.iload 4, 2) := by decide +kernel
theorem dX6_act_21 : decode cX6_act 21 = .ok (.iload 5, 2) := by decide +kernel
theorem dX6_act_23 : decode cX6_act 23 = .ok (.invokevirtual 69, 3) := by decide +kernel
theorem dX6_act_26 : decode cX6_act 26 = .ok (.astore 8, 2) := by decide +kernel
theorem dX6_act_28 : decode cX6_act 28 = .ok (.aload 8, 2) := by decide +kernel
theorem dX6_act_30 : decode cX6_act 30 = .ok (.ifnonnull 6, 3) := by decide +kernel
theorem dX6_act_33 : decode cX6_act 33 = .ok (.bipush (-2), 2) := by decide +kernel
theorem dX6_act_35 : decode cX6_act 35 = .ok (.ireturn, 1) := by decide +kernel
theorem dX6_act_36 : decode cX6_act 36 = .ok (.iload_n 2, 1) := by decide +kernel
theorem dX6_act_37 : decode cX6_act 37 = .ok (.invokestatic 73, 3) := by decide +kernel
theorem dX6_act_40 : decode cX6_act 40 = .ok (.ifCond .eq 16, 3) := by decide +kernel
theorem dX6_act_43 : decode cX6_act 43 = .ok (.iload_n 3, 1) := by decide +kernel
theorem dX6_act_44 : decode cX6_act 44 = .ok (.iload 4, 2) := by decide +kernel
theorem dX6_act_46 : decode cX6_act 46 = .ok (.iload 5, 2) := by decide +kernel
theorem dX6_act_48 : decode cX6_act 48 = .ok (.iload 6, 2) := by decide +kernel
theorem dX6_act_50 : decode cX6_act 50 = .ok (.invokestatic 76, 3) := by decide +kernel
theorem dX6_act_53 : decode cX6_act 53 = .ok (.ifCond .ne 6, 3) := by decide +kernel
theorem dX6_act_56 : decode cX6_act 56 = .ok (.bipush (-3), 2) := by decide +kernel
theorem dX6_act_58 : decode cX6_act 58 = .ok (.ireturn, 1) := by decide +kernel
theorem dX6_act_59 : decode cX6_act 59 = .ok (.iload_n 3, 1) := by decide +kernel
theorem dX6_act_60 : decode cX6_act 60 = .ok (.bipush 8, 2) := by decide +kernel
theorem dX6_act_62 : decode cX6_act 62 = .ok (.if_icmp .ne 11, 3) := by decide +kernel
theorem dX6_act_65 : decode cX6_act 65 = .ok (.aload 8, 2) := by decide +kernel
theorem dX6_act_67 : decode cX6_act 67 = .ok (.getfield 37, 3) := by decide +kernel
theorem dX6_act_70 : decode cX6_act 70 = .ok (.ifCond .ne 11, 3) := by decide +kernel
theorem dX6_act_73 : decode cX6_act 73 = .ok (.aload 7, 2) := by decide +kernel
theorem dX6_act_75 : decode cX6_act 75 = .ok (.getfield 52, 3) := by decide +kernel
theorem dX6_act_78 : decode cX6_act 78 = .ok (.ifCond .eq 6, 3) := by decide +kernel
theorem dX6_act_81 : decode cX6_act 81 = .ok (.bipush (-4), 2) := by decide +kernel
theorem dX6_act_83 : decode cX6_act 83 = .ok (.ireturn, 1) := by decide +kernel
theorem dX6_act_84 : decode cX6_act 84 = .ok (.aload 7, 2) := by decide +kernel
theorem dX6_act_86 : decode cX6_act 86 = .ok (.getfield 82, 3) := by decide +kernel
theorem dX6_act_89 : decode cX6_act 89 = .ok (.iload_n 2, 1) := by decide +kernel
theorem dX6_act_90 : decode cX6_act 90 = .ok (.aaload, 1) := by decide +kernel
theorem dX6_act_91 : decode cX6_act 91 = .ok (.iload_n 3, 1) := by decide +kernel
theorem dX6_act_92 : decode cX6_act 92 = .ok (.aload 8, 2) := by decide +kernel
theorem dX6_act_94 : decode cX6_act 94 = .ok (.iload 4, 2) := by decide +kernel
theorem dX6_act_96 : decode cX6_act 96 = .ok (.iload 5, 2) := by decide +kernel
theorem dX6_act_98 : decode cX6_act 98 = .ok (.iload 6, 2) := by decide +kernel
theorem dX6_act_100 : decode cX6_act 100 = .ok (.invokevirtual 86, 3) := by decide +kernel
theorem dX6_act_103 : decode cX6_act 103 = .ok (.ireturn, 1) := by decide +kernel
theorem dX6_run_0 : decode cX6_run 0 = .ok (.aload_n 0, 1) := by decide +kernel
theorem dX6_run_1 : decode cX6_run 1 = .ok (.iload_n 1, 1) := by decide +kernel
theorem dX6_run_2 : decode cX6_run 2 = .ok (.invokevirtual 33, 3) := by decide +kernel
theorem dX6_run_5 : decode cX6_run 5 = .ok (.astore_n 3, 1) := by decide +kernel
theorem dX6_run_6 : decode cX6_run 6 = .ok (.aload_n 3, 1) := by decide +kernel
theorem dX6_run_7 : decode cX6_run 7 = .ok (.ifnonnull 6, 3) := by decide +kernel
theorem dX6_run_10 : decode cX6_run 10 = .ok (.bipush (-2), 2) := by decide +kernel
theorem dX6_run_12 : decode cX6_run 12 = .ok (.ireturn, 1) := by decide +kernel
theorem dX6_run_13 : decode cX6_run 13 = .ok (.iload_n 2, 1) := by decide +kernel
theorem dX6_run_14 : decode cX6_run 14 = .ok (.invokestatic 92, 3) := by decide +kernel
theorem dX6_run_17 : decode cX6_run 17 = .ok (.ifCond .ne 6, 3) := by decide +kernel
theorem dX6_run_20 : decode cX6_run 20 = .ok (.bipush (-3), 2) := by decide +kernel
theorem dX6_run_22 : decode cX6_run 22 = .ok (.ireturn, 1) := by decide +kernel
theorem dX6_run_23 : decode cX6_run 23 = .ok (.aload_n 0, 1) := by decide +kernel
theorem dX6_run_24 : decode cX6_run 24 = .ok (.getfield 22, 3) := by decide +kernel
theorem dX6_run_27 : decode cX6_run 27 = .ok (.aload_n 3, 1) := by decide +kernel
theorem dX6_run_28 : decode cX6_run 28 = .ok (.iload_n 2, 1) := by decide +kernel
theorem dX6_run_29 : decode cX6_run 29 = .ok (.invokevirtual 95, 3) := by decide +kernel
theorem dX6_run_32 : decode cX6_run 32 = .ok (.ireturn, 1) := by decide +kernel
theorem dX6_cause_0 : decode cX6_cause 0 = .ok (.aload_n 0, 1) := by decide +kernel
theorem dX6_cause_1 : decode cX6_cause 1 = .ok (.getfield 22, 3) := by decide +kernel
theorem dX6_cause_4 : decode cX6_cause 4 = .ok (.getfield 99, 3) := by decide +kernel
theorem dX6_cause_7 : decode cX6_cause 7 = .ok (.astore_n 1, 1) := by decide +kernel
theorem dX6_cause_8 : decode cX6_cause 8 = .ok (.aload_n 1, 1) := by decide +kernel
theorem dX6_cause_9 : decode cX6_cause 9 = .ok (.getfield 103, 3) := by decide +kernel
theorem dX6_cause_12 : decode cX6_cause 12 = .ok (.bipush 7, 2) := by decide +kernel
theorem dX6_cause_14 : decode cX6_cause 14 = .ok (.if_icmp .ne 10, 3) := by decide +kernel
theorem dX6_cause_17 : decode cX6_cause 17 = .ok (.aload_n 1, 1) := by decide +kernel
theorem dX6_cause_18 : decode cX6_cause 18 = .ok (.getfield 108, 3) := by decide +kernel
theorem dX6_cause_21 : decode cX6_cause 21 = .ok (.goto 4, 3) := by decide +kernel
theorem dX6_cause_24 : decode cX6_cause 24 = .ok (.iconst (-1), 1) := by decide +kernel
theorem dX6_cause_25 : decode cX6_cause 25 = .ok (.ireturn, 1) := by decide +kernel
theorem dX6_count_0 : decode cX6_count 0 = .ok (.aload_n 0, 1) := by decide +kernel
theorem dX6_count_1 : decode cX6_count 1 = .ok (.getfield 22, 3) := by decide +kernel
theorem dX6_count_4 : decode cX6_count 4 = .ok (.getfield 99, 3) := by decide +kernel
theorem dX6_count_7 : decode cX6_count 7 = .ok (.astore_n 2, 1) := by decide +kernel
theorem dX6_count_8 : decode cX6_count 8 = .ok (.iload_n 1, 1) := by decide +kernel
theorem dX6_count_9 : decode cX6_count 9 = .ok (.tableswitch 51 0 3 #[31, 36, 41, 46], 31) := by decide +kernel
theorem dX6_count_40 : decode cX6_count 40 = .ok (.aload_n 2, 1) := by decide +kernel
theorem dX6_count_41 : decode cX6_count 41 = .ok (.getfield 111, 3) := by decide +kernel
theorem dX6_count_44 : decode cX6_count 44 = .ok (.ireturn, 1) := by decide +kernel
theorem dX6_count_45 : decode cX6_count 45 = .ok (.aload_n 2, 1) := by decide +kernel
theorem dX6_count_46 : decode cX6_count 46 = .ok (.getfield 114, 3) := by decide +kernel
theorem dX6_count_49 : decode cX6_count 49 = .ok (.ireturn, 1) := by decide +kernel
theorem dX6_count_50 : decode cX6_count 50 = .ok (.aload_n 2, 1) := by decide +kernel
theorem dX6_count_51 : decode cX6_count 51 = .ok (.getfield 117, 3) := by decide +kernel
theorem dX6_count_54 : decode cX6_count 54 = .ok (.ireturn, 1) := by decide +kernel
theorem dX6_count_55 : decode cX6_count 55 = .ok (.aload_n 2, 1) := by decide +kernel
theorem dX6_count_56 : decode cX6_count 56 = .ok (.getfield 120, 3) := by decide +kernel
theorem dX6_count_59 : decode cX6_count 59 = .ok (.ireturn, 1) := by decide +kernel
theorem dX6_count_60 : decode cX6_count 60 = .ok (.bipush (-3), 2) := by decide +kernel
theorem dX6_count_62 : decode cX6_count 62 = .ok (.ireturn, 1) := by decide +kernel
theorem dX6_event_0 : decode cX6_event 0 = .ok (.aload_n 0, 1) := by decide +kernel
theorem dX6_event_1 : decode cX6_event 1 = .ok (.getfield 22, 3) := by decide +kernel
theorem dX6_event_4 : decode cX6_event 4 = .ok (.getfield 99, 3) := by decide +kernel
theorem dX6_event_7 : decode cX6_event 7 = .ok (.astore_n 3, 1) := by decide +kernel
theorem dX6_event_8 : decode cX6_event 8 = .ok (.iload_n 1, 1) := by decide +kernel
theorem dX6_event_9 : decode cX6_event 9 = .ok (.ifCond .lt 11, 3) := by decide +kernel
theorem dX6_event_12 : decode cX6_event 12 = .ok (.iload_n 1, 1) := by decide +kernel
theorem dX6_event_13 : decode cX6_event 13 = .ok (.aload_n 3, 1) := by decide +kernel
theorem dX6_event_14 : decode cX6_event 14 = .ok (.getfield 111, 3) := by decide +kernel
theorem dX6_event_17 : decode cX6_event 17 = .ok (.if_icmp .lt 5, 3) := by decide +kernel
theorem dX6_event_20 : decode cX6_event 20 = .ok (.iconst 0, 1) := by decide +kernel
theorem dX6_event_21 : decode cX6_event 21 = .ok (.ireturn, 1) := by decide +kernel
theorem dX6_event_22 : decode cX6_event 22 = .ok (.iload_n 2, 1) := by decide +kernel
theorem dX6_event_23 : decode cX6_event 23 = .ok (.lookupswitch 39 #[(0, 25), (1, 32)], 25) := by decide +kernel
theorem dX6_event_48 : decode cX6_event 48 = .ok (.aload_n 3, 1) := by decide +kernel
theorem dX6_event_49 : decode cX6_event 49 = .ok (.getfield 123, 3) := by decide +kernel
theorem dX6_event_52 : decode cX6_event 52 = .ok (.iload_n 1, 1) := by decide +kernel
theorem dX6_event_53 : decode cX6_event 53 = .ok (.iaload, 1) := by decide +kernel
theorem dX6_event_54 : decode cX6_event 54 = .ok (.ireturn, 1) := by decide +kernel
theorem dX6_event_55 : decode cX6_event 55 = .ok (.aload_n 3, 1) := by decide +kernel
theorem dX6_event_56 : decode cX6_event 56 = .ok (.getfield 127, 3) := by decide +kernel
theorem dX6_event_59 : decode cX6_event 59 = .ok (.iload_n 1, 1) := by decide +kernel
theorem dX6_event_60 : decode cX6_event 60 = .ok (.iaload, 1) := by decide +kernel
theorem dX6_event_61 : decode cX6_event 61 = .ok (.ireturn, 1) := by decide +kernel
theorem dX6_event_62 : decode cX6_event 62 = .ok (.iconst 0, 1) := by decide +kernel
theorem dX6_event_63 : decode cX6_event 63 = .ok (.ireturn, 1) := by decide +kernel
theorem dX6_state_0 : decode cX6_state 0 = .ok (.aload_n 0, 1) := by decide +kernel
theorem dX6_state_1 : decode cX6_state 1 = .ok (.iload_n 1, 1) := by decide +kernel
theorem dX6_state_2 : decode cX6_state 2 = .ok (.invokevirtual 33, 3) := by decide +kernel
theorem dX6_state_5 : decode cX6_state 5 = .ok (.astore_n 2, 1) := by decide +kernel
theorem dX6_state_6 : decode cX6_state 6 = .ok (.aload_n 2, 1) := by decide +kernel
theorem dX6_state_7 : decode cX6_state 7 = .ok (.ifnonnull 8, 3) := by decide +kernel
theorem dX6_state_10 : decode cX6_state 10 = .ok (.bipush (-2), 2) := by decide +kernel
theorem dX6_state_12 : decode cX6_state 12 = .ok (.goto 7, 3) := by decide +kernel
theorem dX6_state_15 : decode cX6_state 15 = .ok (.aload_n 2, 1) := by decide +kernel
theorem dX6_state_16 : decode cX6_state 16 = .ok (.getfield 52, 3) := by decide +kernel
theorem dX6_state_19 : decode cX6_state 19 = .ok (.ireturn, 1) := by decide +kernel
theorem dX6_field_0 : decode cX6_field 0 = .ok (.aload_n 0, 1) := by decide +kernel
theorem dX6_field_1 : decode cX6_field 1 = .ok (.iload_n 1, 1) := by decide +kernel
theorem dX6_field_2 : decode cX6_field 2 = .ok (.invokevirtual 33, 3) := by decide +kernel
theorem dX6_field_5 : decode cX6_field 5 = .ok (.astore_n 3, 1) := by decide +kernel
theorem dX6_field_6 : decode cX6_field 6 = .ok (.aload_n 3, 1) := by decide +kernel
theorem dX6_field_7 : decode cX6_field 7 = .ok (.ifnonnull 7, 3) := by decide +kernel
theorem dX6_field_10 : decode cX6_field 10 = .ok (.iconst 0, 1) := by decide +kernel
theorem dX6_field_11 : decode cX6_field 11 = .ok (.goto 8, 3) := by decide +kernel
theorem dX6_field_14 : decode cX6_field 14 = .ok (.aload_n 3, 1) := by decide +kernel
theorem dX6_field_15 : decode cX6_field 15 = .ok (.iload_n 2, 1) := by decide +kernel
theorem dX6_field_16 : decode cX6_field 16 = .ok (.invokevirtual 130, 3) := by decide +kernel
theorem dX6_field_19 : decode cX6_field 19 = .ok (.ireturn, 1) := by decide +kernel
theorem dX6_row_0 : decode cX6_row 0 = .ok (.aload_n 0, 1) := by decide +kernel
theorem dX6_row_1 : decode cX6_row 1 = .ok (.iload_n 1, 1) := by decide +kernel
theorem dX6_row_2 : decode cX6_row 2 = .ok (.invokevirtual 33, 3) := by decide +kernel
theorem dX6_row_5 : decode cX6_row 5 = .ok (.astore_n 2, 1) := by decide +kernel
theorem dX6_row_6 : decode cX6_row 6 = .ok (.aload_n 2, 1) := by decide +kernel
theorem dX6_row_7 : decode cX6_row 7 = .ok (.ifnonnull 8, 3) := by decide +kernel
theorem dX6_row_10 : decode cX6_row 10 = .ok (.bipush (-2), 2) := by decide +kernel
theorem dX6_row_12 : decode cX6_row 12 = .ok (.goto 7, 3) := by decide +kernel
theorem dX6_row_15 : decode cX6_row 15 = .ok (.aload_n 2, 1) := by decide +kernel
theorem dX6_row_16 : decode cX6_row 16 = .ok (.getfield 134, 3) := by decide +kernel
theorem dX6_row_19 : decode cX6_row 19 = .ok (.ireturn, 1) := by decide +kernel
theorem dX6_item_0 : decode cX6_item 0 = .ok (.aload_n 0, 1) := by decide +kernel
theorem dX6_item_1 : decode cX6_item 1 = .ok (.iload_n 1, 1) := by decide +kernel
theorem dX6_item_2 : decode cX6_item 2 = .ok (.invokevirtual 33, 3) := by decide +kernel
theorem dX6_item_5 : decode cX6_item 5 = .ok (.astore_n 3, 1) := by decide +kernel
theorem dX6_item_6 : decode cX6_item 6 = .ok (.aload_n 3, 1) := by decide +kernel
theorem dX6_item_7 : decode cX6_item 7 = .ok (.ifnull 11, 3) := by decide +kernel
theorem dX6_item_10 : decode cX6_item 10 = .ok (.aload_n 3, 1) := by decide +kernel
theorem dX6_item_11 : decode cX6_item 11 = .ok (.iload_n 2, 1) := by decide +kernel
theorem dX6_item_12 : decode cX6_item 12 = .ok (.invokevirtual 137, 3) := by decide +kernel
theorem dX6_item_15 : decode cX6_item 15 = .ok (.ifCond .ne 7, 3) := by decide +kernel
theorem dX6_item_18 : decode cX6_item 18 = .ok (.iconst 0, 1) := by decide +kernel
theorem dX6_item_19 : decode cX6_item 19 = .ok (.goto 9, 3) := by decide +kernel
theorem dX6_item_22 : decode cX6_item 22 = .ok (.aload_n 3, 1) := by decide +kernel
theorem dX6_item_23 : decode cX6_item 23 = .ok (.getfield 140, 3) := by decide +kernel
theorem dX6_item_26 : decode cX6_item 26 = .ok (.iload_n 2, 1) := by decide +kernel
theorem dX6_item_27 : decode cX6_item 27 = .ok (.iaload, 1) := by decide +kernel
theorem dX6_item_28 : decode cX6_item 28 = .ok (.ireturn, 1) := by decide +kernel
theorem dX6_again_0 : decode cX6_again 0 = .ok (.iconst 0, 1) := by decide +kernel
theorem dX6_again_1 : decode cX6_again 1 = .ok (.istore_n 1, 1) := by decide +kernel
theorem dX6_again_2 : decode cX6_again 2 = .ok (.iconst 0, 1) := by decide +kernel
theorem dX6_again_3 : decode cX6_again 3 = .ok (.istore_n 2, 1) := by decide +kernel
theorem dX6_again_4 : decode cX6_again 4 = .ok (.iload_n 2, 1) := by decide +kernel
theorem dX6_again_5 : decode cX6_again 5 = .ok (.aload_n 0, 1) := by decide +kernel
theorem dX6_again_6 : decode cX6_again 6 = .ok (.getfield 15, 3) := by decide +kernel
theorem dX6_again_9 : decode cX6_again 9 = .ok (.if_icmp .ge 33, 3) := by decide +kernel
theorem dX6_again_12 : decode cX6_again 12 = .ok (.aload_n 0, 1) := by decide +kernel
theorem dX6_again_13 : decode cX6_again 13 = .ok (.getfield 11, 3) := by decide +kernel
theorem dX6_again_16 : decode cX6_again 16 = .ok (.iload_n 2, 1) := by decide +kernel
theorem dX6_again_17 : decode cX6_again 17 = .ok (.aaload, 1) := by decide +kernel
theorem dX6_again_18 : decode cX6_again 18 = .ok (.getfield 52, 3) := by decide +kernel
theorem dX6_again_21 : decode cX6_again 21 = .ok (.ifCond .eq 6, 3) := by decide +kernel
theorem dX6_again_24 : decode cX6_again 24 = .ok (.iinc 1 1, 3) := by decide +kernel
theorem dX6_again_27 : decode cX6_again 27 = .ok (.aload_n 0, 1) := by decide +kernel
theorem dX6_again_28 : decode cX6_again 28 = .ok (.getfield 11, 3) := by decide +kernel
theorem dX6_again_31 : decode cX6_again 31 = .ok (.iload_n 2, 1) := by decide +kernel
theorem dX6_again_32 : decode cX6_again 32 = .ok (.aaload, 1) := by decide +kernel
theorem dX6_again_33 : decode cX6_again 33 = .ok (.invokevirtual 143, 3) := by decide +kernel
theorem dX6_again_36 : decode cX6_again 36 = .ok (.iinc 2 1, 3) := by decide +kernel
theorem dX6_again_39 : decode cX6_again 39 = .ok (.goto (-35), 3) := by decide +kernel
theorem dX6_again_42 : decode cX6_again 42 = .ok (.iload_n 1, 1) := by decide +kernel
theorem dX6_again_43 : decode cX6_again 43 = .ok (.ireturn, 1) := by decide +kernel
theorem dX6_may_0 : decode cX6_may 0 = .ok (.aload_n 0, 1) := by decide +kernel
theorem dX6_may_1 : decode cX6_may 1 = .ok (.iload_n 1, 1) := by decide +kernel
theorem dX6_may_2 : decode cX6_may 2 = .ok (.invokevirtual 33, 3) := by decide +kernel
theorem dX6_may_5 : decode cX6_may 5 = .ok (.astore_n 3, 1) := by decide +kernel
theorem dX6_may_6 : decode cX6_may 6 = .ok (.aload_n 3, 1) := by decide +kernel
theorem dX6_may_7 : decode cX6_may 7 = .ok (.ifnonnull 6, 3) := by decide +kernel
theorem dX6_may_10 : decode cX6_may 10 = .ok (.bipush (-2), 2) := by decide +kernel
theorem dX6_may_12 : decode cX6_may 12 = .ok (.ireturn, 1) := by decide +kernel
theorem dX6_may_13 : decode cX6_may 13 = .ok (.iload_n 2, 1) := by decide +kernel
theorem dX6_may_14 : decode cX6_may 14 = .ok (.invokestatic 73, 3) := by decide +kernel
theorem dX6_may_17 : decode cX6_may 17 = .ok (.ifCond .ne 6, 3) := by decide +kernel
theorem dX6_may_20 : decode cX6_may 20 = .ok (.bipush (-3), 2) := by decide +kernel
theorem dX6_may_22 : decode cX6_may 22 = .ok (.ireturn, 1) := by decide +kernel
theorem dX6_may_23 : decode cX6_may 23 = .ok (.aload_n 0, 1) := by decide +kernel
theorem dX6_may_24 : decode cX6_may 24 = .ok (.getfield 29, 3) := by decide +kernel
theorem dX6_may_27 : decode cX6_may 27 = .ok (.aload_n 3, 1) := by decide +kernel
theorem dX6_may_28 : decode cX6_may 28 = .ok (.iload_n 2, 1) := by decide +kernel
theorem dX6_may_29 : decode cX6_may 29 = .ok (.invokevirtual 146, 3) := by decide +kernel
theorem dX6_may_32 : decode cX6_may 32 = .ok (.ireturn, 1) := by decide +kernel
theorem dX6_ahead_0 : decode cX6_ahead 0 = .ok (.aload_n 0, 1) := by decide +kernel
theorem dX6_ahead_1 : decode cX6_ahead 1 = .ok (.iload_n 1, 1) := by decide +kernel
theorem dX6_ahead_2 : decode cX6_ahead 2 = .ok (.invokevirtual 33, 3) := by decide +kernel
theorem dX6_ahead_5 : decode cX6_ahead 5 = .ok (.astore_n 3, 1) := by decide +kernel
theorem dX6_ahead_6 : decode cX6_ahead 6 = .ok (.aload_n 0, 1) := by decide +kernel
theorem dX6_ahead_7 : decode cX6_ahead 7 = .ok (.iload_n 2, 1) := by decide +kernel
theorem dX6_ahead_8 : decode cX6_ahead 8 = .ok (.invokevirtual 33, 3) := by decide +kernel
theorem dX6_ahead_11 : decode cX6_ahead 11 = .ok (.astore 4, 2) := by decide +kernel
theorem dX6_ahead_13 : decode cX6_ahead 13 = .ok (.aload_n 3, 1) := by decide +kernel
theorem dX6_ahead_14 : decode cX6_ahead 14 = .ok (.ifnull 8, 3) := by decide +kernel
theorem dX6_ahead_17 : decode cX6_ahead 17 = .ok (.aload 4, 2) := by decide +kernel
theorem dX6_ahead_19 : decode cX6_ahead 19 = .ok (.ifnonnull 6, 3) := by decide +kernel
theorem dX6_ahead_22 : decode cX6_ahead 22 = .ok (.bipush (-2), 2) := by decide +kernel
theorem dX6_ahead_24 : decode cX6_ahead 24 = .ok (.ireturn, 1) := by decide +kernel
theorem dX6_ahead_25 : decode cX6_ahead 25 = .ok (.aload_n 3, 1) := by decide +kernel
theorem dX6_ahead_26 : decode cX6_ahead 26 = .ok (.aload 4, 2) := by decide +kernel
theorem dX6_ahead_28 : decode cX6_ahead 28 = .ok (.if_acmp .eq 24, 3) := by decide +kernel
theorem dX6_ahead_31 : decode cX6_ahead 31 = .ok (.aload_n 0, 1) := by decide +kernel
theorem dX6_ahead_32 : decode cX6_ahead 32 = .ok (.getfield 29, 3) := by decide +kernel
theorem dX6_ahead_35 : decode cX6_ahead 35 = .ok (.aload_n 3, 1) := by decide +kernel
theorem dX6_ahead_36 : decode cX6_ahead 36 = .ok (.invokevirtual 149, 3) := by decide +kernel
theorem dX6_ahead_39 : decode cX6_ahead 39 = .ok (.aload 4, 2) := by decide +kernel
theorem dX6_ahead_41 : decode cX6_ahead 41 = .ok (.invokevirtual 152, 3) := by decide +kernel
theorem dX6_ahead_44 : decode cX6_ahead 44 = .ok (.iand, 1) := by decide +kernel
theorem dX6_ahead_45 : decode cX6_ahead 45 = .ok (.ifCond .eq 7, 3) := by decide +kernel
theorem dX6_ahead_48 : decode cX6_ahead 48 = .ok (.iconst 1, 1) := by decide +kernel
theorem dX6_ahead_49 : decode cX6_ahead 49 = .ok (.goto 4, 3) := by decide +kernel
theorem dX6_ahead_52 : decode cX6_ahead 52 = .ok (.iconst 0, 1) := by decide +kernel
theorem dX6_ahead_53 : decode cX6_ahead 53 = .ok (.ireturn, 1) := by decide +kernel
theorem dX6_find_0 : decode cX6_find 0 = .ok (.iload_n 1, 1) := by decide +kernel
theorem dX6_find_1 : decode cX6_find 1 = .ok (.ifCond .lt 20, 3) := by decide +kernel
theorem dX6_find_4 : decode cX6_find 4 = .ok (.iload_n 1, 1) := by decide +kernel
theorem dX6_find_5 : decode cX6_find 5 = .ok (.aload_n 0, 1) := by decide +kernel
theorem dX6_find_6 : decode cX6_find 6 = .ok (.getfield 15, 3) := by decide +kernel
theorem dX6_find_9 : decode cX6_find 9 = .ok (.if_icmp .ge 12, 3) := by decide +kernel
theorem dX6_find_12 : decode cX6_find 12 = .ok (.aload_n 0, 1) := by decide +kernel
theorem dX6_find_13 : decode cX6_find 13 = .ok (.getfield 11, 3) := by decide +kernel
theorem dX6_find_16 : decode cX6_find 16 = .ok (.iload_n 1, 1) := by decide +kernel
theorem dX6_find_17 : decode cX6_find 17 = .ok (.aaload, 1) := by decide +kernel
theorem dX6_find_18 : decode cX6_find 18 = .ok (.goto 4, 3) := by decide +kernel
theorem dX6_find_21 : decode cX6_find 21 = .ok (.aconst_null, 1) := by decide +kernel
theorem dX6_find_22 : decode cX6_find 22 = .ok (.areturn, 1) := by decide +kernel
theorem dX6_keep_0 : decode cX6_keep 0 = .ok (.aload_n 0, 1) := by decide +kernel
theorem dX6_keep_1 : decode cX6_keep 1 = .ok (.getfield 15, 3) := by decide +kernel
theorem dX6_keep_4 : decode cX6_keep 4 = .ok (.bipush 12, 2) := by decide +kernel
theorem dX6_keep_6 : decode cX6_keep 6 = .ok (.if_icmp .lt 6, 3) := by decide +kernel
theorem dX6_keep_9 : decode cX6_keep 9 = .ok (.bipush (-5), 2) := by decide +kernel
theorem dX6_keep_11 : decode cX6_keep 11 = .ok (.ireturn, 1) := by decide +kernel
theorem dX6_keep_12 : decode cX6_keep 12 = .ok (.aload_n 0, 1) := by decide +kernel
theorem dX6_keep_13 : decode cX6_keep 13 = .ok (.getfield 11, 3) := by decide +kernel
theorem dX6_keep_16 : decode cX6_keep 16 = .ok (.aload_n 0, 1) := by decide +kernel
theorem dX6_keep_17 : decode cX6_keep 17 = .ok (.getfield 15, 3) := by decide +kernel
theorem dX6_keep_20 : decode cX6_keep 20 = .ok (.new 9, 3) := by decide +kernel
theorem dX6_keep_23 : decode cX6_keep 23 = .ok (.dup, 1) := by decide +kernel
theorem dX6_keep_24 : decode cX6_keep 24 = .ok (.aload_n 0, 1) := by decide +kernel
theorem dX6_keep_25 : decode cX6_keep 25 = .ok (.getfield 15, 3) := by decide +kernel
theorem dX6_keep_28 : decode cX6_keep 28 = .ok (.iload_n 1, 1) := by decide +kernel
theorem dX6_keep_29 : decode cX6_keep 29 = .ok (.iload_n 2, 1) := by decide +kernel
theorem dX6_keep_30 : decode cX6_keep 30 = .ok (.aload_n 3, 1) := by decide +kernel
theorem dX6_keep_31 : decode cX6_keep 31 = .ok (.invokespecial 156, 3) := by decide +kernel
theorem dX6_keep_34 : decode cX6_keep 34 = .ok (.aastore, 1) := by decide +kernel
theorem dX6_keep_35 : decode cX6_keep 35 = .ok (.aload_n 0, 1) := by decide +kernel
theorem dX6_keep_36 : decode cX6_keep 36 = .ok (.dup, 1) := by decide +kernel
theorem dX6_keep_37 : decode cX6_keep 37 = .ok (.getfield 15, 3) := by decide +kernel
theorem dX6_keep_40 : decode cX6_keep 40 = .ok (.iconst 1, 1) := by decide +kernel
theorem dX6_keep_41 : decode cX6_keep 41 = .ok (.iadd, 1) := by decide +kernel
theorem dX6_keep_42 : decode cX6_keep 42 = .ok (.putfield 15, 3) := by decide +kernel
theorem dX6_keep_45 : decode cX6_keep 45 = .ok (.aload_n 0, 1) := by decide +kernel
theorem dX6_keep_46 : decode cX6_keep 46 = .ok (.getfield 15, 3) := by decide +kernel
theorem dX6_keep_49 : decode cX6_keep 49 = .ok (.iconst 1, 1) := by decide +kernel
theorem dX6_keep_50 : decode cX6_keep 50 = .ok (.isub, 1) := by decide +kernel
theorem dX6_keep_51 : decode cX6_keep 51 = .ok (.ireturn, 1) := by decide +kernel
theorem dX6_named_0 : decode cX6_named 0 = .ok (.iload_n 2, 1) := by decide +kernel
theorem dX6_named_1 : decode cX6_named 1 = .ok (.tableswitch 60 1 8 #[47, 47, 47, 60, 60, 60, 54, 54], 47) := by decide +kernel
theorem dX6_named_48 : decode cX6_named 48 = .ok (.aload_n 0, 1) := by decide +kernel
theorem dX6_named_49 : decode cX6_named 49 = .ok (.iload 4, 2) := by decide +kernel
theorem dX6_named_51 : decode cX6_named 51 = .ok (.invokevirtual 33, 3) := by decide +kernel
theorem dX6_named_54 : decode cX6_named 54 = .ok (.areturn, 1) := by decide +kernel
theorem dX6_named_55 : decode cX6_named 55 = .ok (.aload_n 0, 1) := by decide +kernel
theorem dX6_named_56 : decode cX6_named 56 = .ok (.iload_n 3, 1) := by decide +kernel
theorem dX6_named_57 : decode cX6_named 57 = .ok (.invokevirtual 33, 3) := by decide +kernel
theorem dX6_named_60 : decode cX6_named 60 = .ok (.areturn, 1) := by decide +kernel
theorem dX6_named_61 : decode cX6_named 61 = .ok (.aload_n 1, 1) := by decide +kernel
theorem dX6_named_62 : decode cX6_named 62 = .ok (.areturn, 1) := by decide +kernel
