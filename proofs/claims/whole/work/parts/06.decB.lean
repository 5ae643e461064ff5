theorem dX3_init_0 : decode cX3_init 0 = .ok (.aload_n 0, 1) := by decide +kernel
theorem dX3_init_1 : decode cX3_init 1 = .ok (.invokespecial 3, 3) := by decide +kernel
theorem dX3_init_4 : decode cX3_init 4 = .ok (.aload_n 0, 1) := by decide +kernel
theorem dX3_init_5 : decode cX3_init 5 = .ok (.new 9, 3) := by decide +kernel
theorem dX3_init_8 : decode cX3_init 8 = .ok (.dup, 1) := by decide +kernel
theorem dX3_init_9 : decode cX3_init 9 = .ok (.invokespecial 11, 3) := by decide +kernel
theorem dX3_init_12 : decode cX3_init 12 = .ok (.putfield 12, 3) := by decide +kernel
theorem dX3_init_15 : decode cX3_init 15 = .ok (.return_, 1) := by decide +kernel
theorem dX3_execute_0 : decode cX3_execute 0 = .ok (.aload_n 0, 1) := by decide +kernel
theorem dX3_execute_1 : decode cX3_execute 1 = .ok (.getfield 12, 3) := by decide +kernel
theorem dX3_execute_4 : decode cX3_execute 4 = .ok (.invokevirtual 18, 3) := by decide +kernel
theorem dX3_execute_7 : decode cX3_execute 7 = .ok (.aload_n 0, 1) := by decide +kernel
theorem dX3_execute_8 : decode cX3_execute 8 = .ok (.aload_n 1, 1) := by decide +kernel
theorem dX3_execute_9 : decode cX3_execute 9 = .ok (.iconst 0, 1) := by decide +kernel
theorem dX3_execute_10 : decode cX3_execute 10 = .ok (.invokevirtual 21, 3) := by decide +kernel
theorem dX3_execute_13 : decode cX3_execute 13 = .ok (.istore_n 3, 1) := by decide +kernel
theorem dX3_execute_14 : decode cX3_execute 14 = .ok (.iload_n 3, 1) := by decide +kernel
theorem dX3_execute_15 : decode cX3_execute 15 = .ok (.iconst (-1), 1) := by decide +kernel
theorem dX3_execute_16 : decode cX3_execute 16 = .ok (.if_icmp .ne 11, 3) := by decide +kernel
theorem dX3_execute_19 : decode cX3_execute 19 = .ok (.aload_n 0, 1) := by decide +kernel
theorem dX3_execute_20 : decode cX3_execute 20 = .ok (.aload_n 1, 1) := by decide +kernel
theorem dX3_execute_21 : decode cX3_execute 21 = .ok (.iload_n 2, 1) := by decide +kernel
theorem dX3_execute_22 : decode cX3_execute 22 = .ok (.iconst 0, 1) := by decide +kernel
theorem dX3_execute_23 : decode cX3_execute 23 = .ok (.invokevirtual 25, 3) := by decide +kernel
theorem dX3_execute_26 : decode cX3_execute 26 = .ok (.istore_n 3, 1) := by decide +kernel
theorem dX3_execute_27 : decode cX3_execute 27 = .ok (.aload_n 0, 1) := by decide +kernel
theorem dX3_execute_28 : decode cX3_execute 28 = .ok (.getfield 12, 3) := by decide +kernel
theorem dX3_execute_31 : decode cX3_execute 31 = .ok (.iload_n 3, 1) := by decide +kernel
theorem dX3_execute_32 : decode cX3_execute 32 = .ok (.putfield 29, 3) := by decide +kernel
theorem dX3_execute_35 : decode cX3_execute 35 = .ok (.iload_n 3, 1) := by decide +kernel
theorem dX3_execute_36 : decode cX3_execute 36 = .ok (.ireturn, 1) := by decide +kernel
theorem dX3_raise_0 : decode cX3_raise 0 = .ok (.aload_n 0, 1) := by decide +kernel
theorem dX3_raise_1 : decode cX3_raise 1 = .ok (.getfield 12, 3) := by decide +kernel
theorem dX3_raise_4 : decode cX3_raise 4 = .ok (.dup, 1) := by decide +kernel
theorem dX3_raise_5 : decode cX3_raise 5 = .ok (.getfield 33, 3) := by decide +kernel
theorem dX3_raise_8 : decode cX3_raise 8 = .ok (.iconst 1, 1) := by decide +kernel
theorem dX3_raise_9 : decode cX3_raise 9 = .ok (.iadd, 1) := by decide +kernel
theorem dX3_raise_10 : decode cX3_raise 10 = .ok (.putfield 33, 3) := by decide +kernel
theorem dX3_raise_13 : decode cX3_raise 13 = .ok (.iload_n 1, 1) := by decide +kernel
theorem dX3_raise_14 : decode cX3_raise 14 = .ok (.ireturn, 1) := by decide +kernel
theorem dX3_want_0 : decode cX3_want 0 = .ok (.aload_n 1, 1) := by decide +kernel
theorem dX3_want_1 : decode cX3_want 1 = .ok (.getfield 36, 3) := by decide +kernel
theorem dX3_want_4 : decode cX3_want 4 = .ok (.iconst 3, 1) := by decide +kernel
theorem dX3_want_5 : decode cX3_want 5 = .ok (.if_icmp .ne 10, 3) := by decide +kernel
theorem dX3_want_8 : decode cX3_want 8 = .ok (.aload_n 0, 1) := by decide +kernel
theorem dX3_want_9 : decode cX3_want 9 = .ok (.bipush 8, 2) := by decide +kernel
theorem dX3_want_11 : decode cX3_want 11 = .ok (.invokevirtual 41, 3) := by decide +kernel
theorem dX3_want_14 : decode cX3_want 14 = .ok (.ireturn, 1) := by decide +kernel
theorem dX3_want_15 : decode cX3_want 15 = .ok (.aload_n 1, 1) := by decide +kernel
theorem dX3_want_16 : decode cX3_want 16 = .ok (.getfield 36, 3) := by decide +kernel
theorem dX3_want_19 : decode cX3_want 19 = .ok (.ifCond .eq 5, 3) := by decide +kernel
theorem dX3_want_22 : decode cX3_want 22 = .ok (.iconst (-1), 1) := by decide +kernel
theorem dX3_want_23 : decode cX3_want 23 = .ok (.ireturn, 1) := by decide +kernel
theorem dX3_want_24 : decode cX3_want 24 = .ok (.aload_n 1, 1) := by decide +kernel
theorem dX3_want_25 : decode cX3_want 25 = .ok (.iconst 1, 1) := by decide +kernel
theorem dX3_want_26 : decode cX3_want 26 = .ok (.putfield 36, 3) := by decide +kernel
theorem dX3_want_29 : decode cX3_want 29 = .ok (.aload_n 0, 1) := by decide +kernel
theorem dX3_want_30 : decode cX3_want 30 = .ok (.getfield 12, 3) := by decide +kernel
theorem dX3_want_33 : decode cX3_want 33 = .ok (.iconst 0, 1) := by decide +kernel
theorem dX3_want_34 : decode cX3_want 34 = .ok (.aload_n 1, 1) := by decide +kernel
theorem dX3_want_35 : decode cX3_want 35 = .ok (.getfield 45, 3) := by decide +kernel
theorem dX3_want_38 : decode cX3_want 38 = .ok (.invokevirtual 48, 3) := by decide +kernel
theorem dX3_want_41 : decode cX3_want 41 = .ok (.aload_n 0, 1) := by decide +kernel
theorem dX3_want_42 : decode cX3_want 42 = .ok (.aload_n 1, 1) := by decide +kernel
theorem dX3_want_43 : decode cX3_want 43 = .ok (.iload_n 2, 1) := by decide +kernel
theorem dX3_want_44 : decode cX3_want 44 = .ok (.invokevirtual 52, 3) := by decide +kernel
theorem dX3_want_47 : decode cX3_want 47 = .ok (.istore_n 3, 1) := by decide +kernel
theorem dX3_want_48 : decode cX3_want 48 = .ok (.iload_n 3, 1) := by decide +kernel
theorem dX3_want_49 : decode cX3_want 49 = .ok (.iconst (-1), 1) := by decide +kernel
theorem dX3_want_50 : decode cX3_want 50 = .ok (.if_icmp .ne 22, 3) := by decide +kernel
theorem dX3_want_53 : decode cX3_want 53 = .ok (.aload_n 1, 1) := by decide +kernel
theorem dX3_want_54 : decode cX3_want 54 = .ok (.iconst 2, 1) := by decide +kernel
theorem dX3_want_55 : decode cX3_want 55 = .ok (.putfield 36, 3) := by decide +kernel
theorem dX3_want_58 : decode cX3_want 58 = .ok (.aload_n 0, 1) := by decide +kernel
theorem dX3_want_59 : decode cX3_want 59 = .ok (.getfield 12, 3) := by decide +kernel
theorem dX3_want_62 : decode cX3_want 62 = .ok (.iconst 1, 1) := by decide +kernel
theorem dX3_want_63 : decode cX3_want 63 = .ok (.aload_n 1, 1) := by decide +kernel
theorem dX3_want_64 : decode cX3_want 64 = .ok (.getfield 45, 3) := by decide +kernel
theorem dX3_want_67 : decode cX3_want 67 = .ok (.invokevirtual 48, 3) := by decide +kernel
theorem dX3_want_70 : decode cX3_want 70 = .ok (.iconst (-1), 1) := by decide +kernel
theorem dX3_want_71 : decode cX3_want 71 = .ok (.ireturn, 1) := by decide +kernel
theorem dX3_want_72 : decode cX3_want 72 = .ok (.aload_n 1, 1) := by decide +kernel
theorem dX3_want_73 : decode cX3_want 73 = .ok (.iconst 3, 1) := by decide +kernel
theorem dX3_want_74 : decode cX3_want 74 = .ok (.putfield 36, 3) := by decide +kernel
theorem dX3_want_77 : decode cX3_want 77 = .ok (.aload_n 0, 1) := by decide +kernel
theorem dX3_want_78 : decode cX3_want 78 = .ok (.getfield 12, 3) := by decide +kernel
theorem dX3_want_81 : decode cX3_want 81 = .ok (.iconst 2, 1) := by decide +kernel
theorem dX3_want_82 : decode cX3_want 82 = .ok (.aload_n 1, 1) := by decide +kernel
theorem dX3_want_83 : decode cX3_want 83 = .ok (.getfield 45, 3) := by decide +kernel
theorem dX3_want_86 : decode cX3_want 86 = .ok (.invokevirtual 48, 3) := by decide +kernel
theorem dX3_want_89 : decode cX3_want 89 = .ok (.aload_n 0, 1) := by decide +kernel
theorem dX3_want_90 : decode cX3_want 90 = .ok (.iload_n 3, 1) := by decide +kernel
theorem dX3_want_91 : decode cX3_want 91 = .ok (.invokevirtual 55, 3) := by decide +kernel
theorem dX3_want_94 : decode cX3_want 94 = .ok (.ireturn, 1) := by decide +kernel
theorem dX3_start_0 : decode cX3_start 0 = .ok (.iconst (-1), 1) := by decide +kernel
theorem dX3_start_1 : decode cX3_start 1 = .ok (.istore_n 3, 1) := by decide +kernel
theorem dX3_start_2 : decode cX3_start 2 = .ok (.aload_n 1, 1) := by decide +kernel
theorem dX3_start_3 : decode cX3_start 3 = .ok (.getfield 58, 3) := by decide +kernel
theorem dX3_start_6 : decode cX3_start 6 = .ok (.ifnull 13, 3) := by decide +kernel
theorem dX3_start_9 : decode cX3_start 9 = .ok (.aload_n 0, 1) := by decide +kernel
theorem dX3_start_10 : decode cX3_start 10 = .ok (.aload_n 1, 1) := by decide +kernel
theorem dX3_start_11 : decode cX3_start 11 = .ok (.getfield 58, 3) := by decide +kernel
theorem dX3_start_14 : decode cX3_start 14 = .ok (.iload_n 2, 1) := by decide +kernel
theorem dX3_start_15 : decode cX3_start 15 = .ok (.invokevirtual 21, 3) := by decide +kernel
theorem dX3_start_18 : decode cX3_start 18 = .ok (.istore_n 3, 1) := by decide +kernel
theorem dX3_start_19 : decode cX3_start 19 = .ok (.iload_n 3, 1) := by decide +kernel
theorem dX3_start_20 : decode cX3_start 20 = .ok (.iconst (-1), 1) := by decide +kernel
theorem dX3_start_21 : decode cX3_start 21 = .ok (.if_icmp .ne 19, 3) := by decide +kernel
theorem dX3_start_24 : decode cX3_start 24 = .ok (.aload_n 1, 1) := by decide +kernel
theorem dX3_start_25 : decode cX3_start 25 = .ok (.getfield 62, 3) := by decide +kernel
theorem dX3_start_28 : decode cX3_start 28 = .ok (.ifCond .ne 12, 3) := by decide +kernel
theorem dX3_start_31 : decode cX3_start 31 = .ok (.aload_n 0, 1) := by decide +kernel
theorem dX3_start_32 : decode cX3_start 32 = .ok (.aload_n 1, 1) := by decide +kernel
theorem dX3_start_33 : decode cX3_start 33 = .ok (.iload_n 2, 1) := by decide +kernel
theorem dX3_start_34 : decode cX3_start 34 = .ok (.bipush 12, 2) := by decide +kernel
theorem dX3_start_36 : decode cX3_start 36 = .ok (.invokevirtual 66, 3) := by decide +kernel
theorem dX3_start_39 : decode cX3_start 39 = .ok (.istore_n 3, 1) := by decide +kernel
theorem dX3_start_40 : decode cX3_start 40 = .ok (.iload_n 3, 1) := by decide +kernel
theorem dX3_start_41 : decode cX3_start 41 = .ok (.iconst (-1), 1) := by decide +kernel
theorem dX3_start_42 : decode cX3_start 42 = .ok (.if_icmp .eq 5, 3) := by decide +kernel
theorem dX3_start_45 : decode cX3_start 45 = .ok (.iload_n 3, 1) := by decide +kernel
theorem dX3_start_46 : decode cX3_start 46 = .ok (.ireturn, 1) := by decide +kernel
theorem dX3_start_47 : decode cX3_start 47 = .ok (.iload_n 2, 1) := by decide +kernel
theorem dX3_start_48 : decode cX3_start 48 = .ok (.bipush 8, 2) := by decide +kernel
theorem dX3_start_50 : decode cX3_start 50 = .ok (.if_icmp .ge 13, 3) := by decide +kernel
theorem dX3_start_53 : decode cX3_start 53 = .ok (.aload_n 0, 1) := by decide +kernel
theorem dX3_start_54 : decode cX3_start 54 = .ok (.aload_n 1, 1) := by decide +kernel
theorem dX3_start_55 : decode cX3_start 55 = .ok (.iconst 0, 1) := by decide +kernel
theorem dX3_start_56 : decode cX3_start 56 = .ok (.iload_n 2, 1) := by decide +kernel
theorem dX3_start_57 : decode cX3_start 57 = .ok (.invokevirtual 25, 3) := by decide +kernel
theorem dX3_start_60 : decode cX3_start 60 = .ok (.goto 9, 3) := by decide +kernel
theorem dX3_start_63 : decode cX3_start 63 = .ok (.aload_n 0, 1) := by decide +kernel
theorem dX3_start_64 : decode cX3_start 64 = .ok (.bipush 9, 2) := by decide +kernel
theorem dX3_start_66 : decode cX3_start 66 = .ok (.invokevirtual 41, 3) := by decide +kernel
theorem dX3_start_69 : decode cX3_start 69 = .ok (.ireturn, 1) := by decide +kernel
theorem dX3_afterStart_0 : decode cX3_afterStart 0 = .ok (.iload_n 1, 1) := by decide +kernel
theorem dX3_afterStart_1 : decode cX3_afterStart 1 = .ok (.bipush 7, 2) := by decide +kernel
theorem dX3_afterStart_3 : decode cX3_afterStart 3 = .ok (.if_icmp .lt 5, 3) := by decide +kernel
theorem dX3_afterStart_6 : decode cX3_afterStart 6 = .ok (.iload_n 1, 1) := by decide +kernel
theorem dX3_afterStart_7 : decode cX3_afterStart 7 = .ok (.ireturn, 1) := by decide +kernel
theorem dX3_afterStart_8 : decode cX3_afterStart 8 = .ok (.aload_n 0, 1) := by decide +kernel
theorem dX3_afterStart_9 : decode cX3_afterStart 9 = .ok (.getfield 12, 3) := by decide +kernel
theorem dX3_afterStart_12 : decode cX3_afterStart 12 = .ok (.iload_n 1, 1) := by decide +kernel
theorem dX3_afterStart_13 : decode cX3_afterStart 13 = .ok (.putfield 69, 3) := by decide +kernel
theorem dX3_afterStart_16 : decode cX3_afterStart 16 = .ok (.aload_n 0, 1) := by decide +kernel
theorem dX3_afterStart_17 : decode cX3_afterStart 17 = .ok (.bipush 7, 2) := by decide +kernel
theorem dX3_afterStart_19 : decode cX3_afterStart 19 = .ok (.invokevirtual 41, 3) := by decide +kernel
theorem dX3_afterStart_22 : decode cX3_afterStart 22 = .ok (.ireturn, 1) := by decide +kernel
theorem dX3_lookThrough_0 : decode cX3_lookThrough 0 = .ok (.iconst (-1), 1) := by decide +kernel
theorem dX3_lookThrough_1 : decode cX3_lookThrough 1 = .ok (.istore 4, 2) := by decide +kernel
theorem dX3_lookThrough_3 : decode cX3_lookThrough 3 = .ok (.iconst 0, 1) := by decide +kernel
theorem dX3_lookThrough_4 : decode cX3_lookThrough 4 = .ok (.istore 5, 2) := by decide +kernel
theorem dX3_lookThrough_6 : decode cX3_lookThrough 6 = .ok (.iload 5, 2) := by decide +kernel
theorem dX3_lookThrough_8 : decode cX3_lookThrough 8 = .ok (.aload_n 1, 1) := by decide +kernel
theorem dX3_lookThrough_9 : decode cX3_lookThrough 9 = .ok (.getfield 72, 3) := by decide +kernel
theorem dX3_lookThrough_12 : decode cX3_lookThrough 12 = .ok (.if_icmp .ge 63, 3) := by decide +kernel
theorem dX3_lookThrough_15 : decode cX3_lookThrough 15 = .ok (.iload 4, 2) := by decide +kernel
theorem dX3_lookThrough_17 : decode cX3_lookThrough 17 = .ok (.iconst (-1), 1) := by decide +kernel
theorem dX3_lookThrough_18 : decode cX3_lookThrough 18 = .ok (.if_icmp .ne 57, 3) := by decide +kernel
theorem dX3_lookThrough_21 : decode cX3_lookThrough 21 = .ok (.iload_n 3, 1) := by decide +kernel
theorem dX3_lookThrough_22 : decode cX3_lookThrough 22 = .ok (.ifCond .le 53, 3) := by decide +kernel
theorem dX3_lookThrough_25 : decode cX3_lookThrough 25 = .ok (.aload_n 1, 1) := by decide +kernel
theorem dX3_lookThrough_26 : decode cX3_lookThrough 26 = .ok (.getfield 75, 3) := by decide +kernel
theorem dX3_lookThrough_29 : decode cX3_lookThrough 29 = .ok (.iload 5, 2) := by decide +kernel
theorem dX3_lookThrough_31 : decode cX3_lookThrough 31 = .ok (.aaload, 1) := by decide +kernel
theorem dX3_lookThrough_32 : decode cX3_lookThrough 32 = .ok (.astore 6, 2) := by decide +kernel
theorem dX3_lookThrough_34 : decode cX3_lookThrough 34 = .ok (.aload_n 0, 1) := by decide +kernel
theorem dX3_lookThrough_35 : decode cX3_lookThrough 35 = .ok (.aload 6, 2) := by decide +kernel
theorem dX3_lookThrough_37 : decode cX3_lookThrough 37 = .ok (.iload_n 2, 1) := by decide +kernel
theorem dX3_lookThrough_38 : decode cX3_lookThrough 38 = .ok (.iload_n 3, 1) := by decide +kernel
theorem dX3_lookThrough_39 : decode cX3_lookThrough 39 = .ok (.iconst 1, 1) := by decide +kernel
theorem dX3_lookThrough_40 : decode cX3_lookThrough 40 = .ok (.isub, 1) := by decide +kernel
theorem dX3_lookThrough_41 : decode cX3_lookThrough 41 = .ok (.invokevirtual 66, 3) := by decide +kernel
theorem dX3_lookThrough_44 : decode cX3_lookThrough 44 = .ok (.istore 4, 2) := by decide +kernel
theorem dX3_lookThrough_46 : decode cX3_lookThrough 46 = .ok (.iload 4, 2) := by decide +kernel
theorem dX3_lookThrough_48 : decode cX3_lookThrough 48 = .ok (.iconst (-1), 1) := by decide +kernel
theorem dX3_lookThrough_49 : decode cX3_lookThrough 49 = .ok (.if_icmp .ne 20, 3) := by decide +kernel
theorem dX3_lookThrough_52 : decode cX3_lookThrough 52 = .ok (.aload 6, 2) := by decide +kernel
theorem dX3_lookThrough_54 : decode cX3_lookThrough 54 = .ok (.getfield 79, 3) := by decide +kernel
theorem dX3_lookThrough_57 : decode cX3_lookThrough 57 = .ok (.ifCond .eq 12, 3) := by decide +kernel
theorem dX3_lookThrough_60 : decode cX3_lookThrough 60 = .ok (.aload_n 0, 1) := by decide +kernel
theorem dX3_lookThrough_61 : decode cX3_lookThrough 61 = .ok (.aload 6, 2) := by decide +kernel
theorem dX3_lookThrough_63 : decode cX3_lookThrough 63 = .ok (.iload_n 2, 1) := by decide +kernel
theorem dX3_lookThrough_64 : decode cX3_lookThrough 64 = .ok (.invokevirtual 21, 3) := by decide +kernel
theorem dX3_lookThrough_67 : decode cX3_lookThrough 67 = .ok (.istore 4, 2) := by decide +kernel
theorem dX3_lookThrough_69 : decode cX3_lookThrough 69 = .ok (.iinc 5 1, 3) := by decide +kernel
theorem dX3_lookThrough_72 : decode cX3_lookThrough 72 = .ok (.goto (-66), 3) := by decide +kernel
theorem dX3_lookThrough_75 : decode cX3_lookThrough 75 = .ok (.iload 4, 2) := by decide +kernel
theorem dX3_lookThrough_77 : decode cX3_lookThrough 77 = .ok (.ireturn, 1) := by decide +kernel
theorem dX3_work_0 : decode cX3_work 0 = .ok (.aload_n 1, 1) := by decide +kernel
theorem dX3_work_1 : decode cX3_work 1 = .ok (.getfield 82, 3) := by decide +kernel
theorem dX3_work_4 : decode cX3_work 4 = .ok (.iload_n 2, 1) := by decide +kernel
theorem dX3_work_5 : decode cX3_work 5 = .ok (.aaload, 1) := by decide +kernel
theorem dX3_work_6 : decode cX3_work 6 = .ok (.astore 4, 2) := by decide +kernel
theorem dX3_work_8 : decode cX3_work 8 = .ok (.iconst 0, 1) := by decide +kernel
theorem dX3_work_9 : decode cX3_work 9 = .ok (.istore 5, 2) := by decide +kernel
theorem dX3_work_11 : decode cX3_work 11 = .ok (.iconst 0, 1) := by decide +kernel
theorem dX3_work_12 : decode cX3_work 12 = .ok (.istore 6, 2) := by decide +kernel
theorem dX3_work_14 : decode cX3_work 14 = .ok (.iload 6, 2) := by decide +kernel
theorem dX3_work_16 : decode cX3_work 16 = .ok (.aload 4, 2) := by decide +kernel
theorem dX3_work_18 : decode cX3_work 18 = .ok (.getfield 86, 3) := by decide +kernel
theorem dX3_work_21 : decode cX3_work 21 = .ok (.if_icmp .ge 69, 3) := by decide +kernel
theorem dX3_work_24 : decode cX3_work 24 = .ok (.iload 6, 2) := by decide +kernel
theorem dX3_work_26 : decode cX3_work 26 = .ok (.iload 5, 2) := by decide +kernel
theorem dX3_work_28 : decode cX3_work 28 = .ok (.if_icmp .ge 6, 3) := by decide +kernel
theorem dX3_work_31 : decode cX3_work 31 = .ok (.goto 53, 3) := by decide +kernel
theorem dX3_work_34 : decode cX3_work 34 = .ok (.aload_n 0, 1) := by decide +kernel
theorem dX3_work_35 : decode cX3_work 35 = .ok (.aload_n 1, 1) := by decide +kernel
theorem dX3_work_36 : decode cX3_work 36 = .ok (.aload 4, 2) := by decide +kernel
theorem dX3_work_38 : decode cX3_work 38 = .ok (.getfield 91, 3) := by decide +kernel
theorem dX3_work_41 : decode cX3_work 41 = .ok (.iload 6, 2) := by decide +kernel
theorem dX3_work_43 : decode cX3_work 43 = .ok (.aaload, 1) := by decide +kernel
theorem dX3_work_44 : decode cX3_work 44 = .ok (.iload_n 3, 1) := by decide +kernel
theorem dX3_work_45 : decode cX3_work 45 = .ok (.iconst 1, 1) := by decide +kernel
theorem dX3_work_46 : decode cX3_work 46 = .ok (.iadd, 1) := by decide +kernel
theorem dX3_work_47 : decode cX3_work 47 = .ok (.invokevirtual 95, 3) := by decide +kernel
theorem dX3_work_50 : decode cX3_work 50 = .ok (.istore 7, 2) := by decide +kernel
theorem dX3_work_52 : decode cX3_work 52 = .ok (.iload 7, 2) := by decide +kernel
theorem dX3_work_54 : decode cX3_work 54 = .ok (.iconst (-1), 1) := by decide +kernel
theorem dX3_work_55 : decode cX3_work 55 = .ok (.if_icmp .eq 29, 3) := by decide +kernel
theorem dX3_work_58 : decode cX3_work 58 = .ok (.aload 4, 2) := by decide +kernel
theorem dX3_work_60 : decode cX3_work 60 = .ok (.iload 6, 2) := by decide +kernel
theorem dX3_work_62 : decode cX3_work 62 = .ok (.iload 7, 2) := by decide +kernel
theorem dX3_work_64 : decode cX3_work 64 = .ok (.invokevirtual 99, 3) := by decide +kernel
theorem dX3_work_67 : decode cX3_work 67 = .ok (.istore 8, 2) := by decide +kernel
theorem dX3_work_69 : decode cX3_work 69 = .ok (.iload 8, 2) := by decide +kernel
theorem dX3_work_71 : decode cX3_work 71 = .ok (.iconst (-1), 1) := by decide +kernel
theorem dX3_work_72 : decode cX3_work 72 = .ok (.if_icmp .ne 6, 3) := by decide +kernel
theorem dX3_work_75 : decode cX3_work 75 = .ok (.iload 7, 2) := by decide +kernel
theorem dX3_work_77 : decode cX3_work 77 = .ok (.ireturn, 1) := by decide +kernel
theorem dX3_work_78 : decode cX3_work 78 = .ok (.iload 8, 2) := by decide +kernel
theorem dX3_work_80 : decode cX3_work 80 = .ok (.iconst 1, 1) := by decide +kernel
theorem dX3_work_81 : decode cX3_work 81 = .ok (.iadd, 1) := by decide +kernel
theorem dX3_work_82 : decode cX3_work 82 = .ok (.istore 5, 2) := by decide +kernel
theorem dX3_work_84 : decode cX3_work 84 = .ok (.iinc 6 1, 3) := by decide +kernel
theorem dX3_work_87 : decode cX3_work 87 = .ok (.goto (-73), 3) := by decide +kernel
theorem dX3_work_90 : decode cX3_work 90 = .ok (.iconst (-1), 1) := by decide +kernel
theorem dX3_work_91 : decode cX3_work 91 = .ok (.ireturn, 1) := by decide +kernel
theorem dX3_begin_0 : decode cX3_begin 0 = .ok (.aload_n 0, 1) := by decide +kernel
theorem dX3_begin_1 : decode cX3_begin 1 = .ok (.getfield 12, 3) := by decide +kernel
theorem dX3_begin_4 : decode cX3_begin 4 = .ok (.getfield 103, 3) := by decide +kernel
theorem dX3_begin_7 : decode cX3_begin 7 = .ok (.bipush 80, 2) := by decide +kernel
theorem dX3_begin_9 : decode cX3_begin 9 = .ok (.if_icmp .lt 6, 3) := by decide +kernel
theorem dX3_begin_12 : decode cX3_begin 12 = .ok (.bipush 10, 2) := by decide +kernel
theorem dX3_begin_14 : decode cX3_begin 14 = .ok (.ireturn, 1) := by decide +kernel
theorem dX3_begin_15 : decode cX3_begin 15 = .ok (.aload_n 0, 1) := by decide +kernel
theorem dX3_begin_16 : decode cX3_begin 16 = .ok (.getfield 12, 3) := by decide +kernel
theorem dX3_begin_19 : decode cX3_begin 19 = .ok (.dup, 1) := by decide +kernel
theorem dX3_begin_20 : decode cX3_begin 20 = .ok (.getfield 103, 3) := by decide +kernel
theorem dX3_begin_23 : decode cX3_begin 23 = .ok (.iconst 1, 1) := by decide +kernel
theorem dX3_begin_24 : decode cX3_begin 24 = .ok (.iadd, 1) := by decide +kernel
theorem dX3_begin_25 : decode cX3_begin 25 = .ok (.putfield 103, 3) := by decide +kernel
theorem dX3_begin_28 : decode cX3_begin 28 = .ok (.aload_n 2, 1) := by decide +kernel
theorem dX3_begin_29 : decode cX3_begin 29 = .ok (.invokevirtual 105, 3) := by decide +kernel
theorem dX3_begin_32 : decode cX3_begin 32 = .ok (.ifCond .eq 23, 3) := by decide +kernel
theorem dX3_begin_35 : decode cX3_begin 35 = .ok (.aload_n 0, 1) := by decide +kernel
theorem dX3_begin_36 : decode cX3_begin 36 = .ok (.aload_n 2, 1) := by decide +kernel
theorem dX3_begin_37 : decode cX3_begin 37 = .ok (.getfield 111, 3) := by decide +kernel
theorem dX3_begin_40 : decode cX3_begin 40 = .ok (.iload_n 3, 1) := by decide +kernel
theorem dX3_begin_41 : decode cX3_begin 41 = .ok (.invokevirtual 21, 3) := by decide +kernel
theorem dX3_begin_44 : decode cX3_begin 44 = .ok (.istore 4, 2) := by decide +kernel
theorem dX3_begin_46 : decode cX3_begin 46 = .ok (.iload 4, 2) := by decide +kernel
theorem dX3_begin_48 : decode cX3_begin 48 = .ok (.iconst (-1), 1) := by decide +kernel
theorem dX3_begin_49 : decode cX3_begin 49 = .ok (.if_icmp .eq 6, 3) := by decide +kernel
theorem dX3_begin_52 : decode cX3_begin 52 = .ok (.iload 4, 2) := by decide +kernel
theorem dX3_begin_54 : decode cX3_begin 54 = .ok (.ireturn, 1) := by decide +kernel
theorem dX3_begin_55 : decode cX3_begin 55 = .ok (.aload_n 0, 1) := by decide +kernel
theorem dX3_begin_56 : decode cX3_begin 56 = .ok (.aload_n 1, 1) := by decide +kernel
theorem dX3_begin_57 : decode cX3_begin 57 = .ok (.aload_n 2, 1) := by decide +kernel
theorem dX3_begin_58 : decode cX3_begin 58 = .ok (.iload_n 3, 1) := by decide +kernel
theorem dX3_begin_59 : decode cX3_begin 59 = .ok (.invokevirtual 114, 3) := by decide +kernel
theorem dX3_begin_62 : decode cX3_begin 62 = .ok (.ireturn, 1) := by decide +kernel
theorem dX3_perform_0 : decode cX3_perform 0 = .ok (.aload_n 2, 1) := by decide +kernel
theorem dX3_perform_1 : decode cX3_perform 1 = .ok (.getfield 117, 3) := by decide +kernel
theorem dX3_perform_4 : decode cX3_perform 4 = .ok (.tableswitch 241 0 12 #[68, 82, 107, 128, 144, 158, 180, 198, 241, 212, 221, 241, 235], 68) := by decide +kernel
theorem dX3_perform_72 : decode cX3_perform 72 = .ok (.aload_n 1, 1) := by decide +kernel
theorem dX3_perform_73 : decode cX3_perform 73 = .ok (.aload_n 2, 1) := by decide +kernel
theorem dX3_perform_74 : decode cX3_perform 74 = .ok (.getfield 120, 3) := by decide +kernel
theorem dX3_perform_77 : decode cX3_perform 77 = .ok (.aload_n 2, 1) := by decide +kernel
theorem dX3_perform_78 : decode cX3_perform 78 = .ok (.getfield 123, 3) := by decide +kernel
theorem dX3_perform_81 : decode cX3_perform 81 = .ok (.invokevirtual 126, 3) := by decide +kernel
theorem dX3_perform_84 : decode cX3_perform 84 = .ok (.iconst (-1), 1) := by decide +kernel
theorem dX3_perform_85 : decode cX3_perform 85 = .ok (.ireturn, 1) := by decide +kernel
theorem dX3_perform_86 : decode cX3_perform 86 = .ok (.aload_n 1, 1) := by decide +kernel
theorem dX3_perform_87 : decode cX3_perform 87 = .ok (.aload_n 2, 1) := by decide +kernel
theorem dX3_perform_88 : decode cX3_perform 88 = .ok (.getfield 120, 3) := by decide +kernel
theorem dX3_perform_91 : decode cX3_perform 91 = .ok (.aload_n 1, 1) := by decide +kernel
theorem dX3_perform_92 : decode cX3_perform 92 = .ok (.aload_n 2, 1) := by decide +kernel
theorem dX3_perform_93 : decode cX3_perform 93 = .ok (.getfield 120, 3) := by decide +kernel
theorem dX3_perform_96 : decode cX3_perform 96 = .ok (.invokevirtual 129, 3) := by decide +kernel
theorem dX3_perform_99 : decode cX3_perform 99 = .ok (.aload_n 0, 1) := by decide +kernel
theorem dX3_perform_100 : decode cX3_perform 100 = .ok (.aload_n 1, 1) := by decide +kernel
theorem dX3_perform_101 : decode cX3_perform 101 = .ok (.aload_n 2, 1) := by decide +kernel
theorem dX3_perform_102 : decode cX3_perform 102 = .ok (.invokevirtual 132, 3) := by decide +kernel
theorem dX3_perform_105 : decode cX3_perform 105 = .ok (.iadd, 1) := by decide +kernel
theorem dX3_perform_106 : decode cX3_perform 106 = .ok (.invokevirtual 126, 3) := by decide +kernel
theorem dX3_perform_109 : decode cX3_perform 109 = .ok (.iconst (-1), 1) := by decide +kernel
theorem dX3_perform_110 : decode cX3_perform 110 = .ok (.ireturn, 1) := by decide +kernel
theorem dX3_perform_111 : decode cX3_perform 111 = .ok (.aload_n 2, 1) := by decide +kernel
theorem dX3_perform_112 : decode cX3_perform 112 = .ok (.getfield 111, 3) := by decide +kernel
theorem dX3_perform_115 : decode cX3_perform 115 = .ok (.aload_n 2, 1) := by decide +kernel
theorem dX3_perform_116 : decode cX3_perform 116 = .ok (.getfield 136, 3) := by decide +kernel
theorem dX3_perform_119 : decode cX3_perform 119 = .ok (.aload_n 1, 1) := by decide +kernel
theorem dX3_perform_120 : decode cX3_perform 120 = .ok (.aload_n 2, 1) := by decide +kernel
theorem dX3_perform_121 : decode cX3_perform 121 = .ok (.getfield 120, 3) := by decide +kernel
theorem dX3_perform_124 : decode cX3_perform 124 = .ok (.invokevirtual 129, 3) := by decide +kernel
theorem dX3_perform_127 : decode cX3_perform 127 = .ok (.invokevirtual 126, 3) := by decide +kernel
theorem dX3_perform_130 : decode cX3_perform 130 = .ok (.iconst (-1), 1) := by decide +kernel
theorem dX3_perform_131 : decode cX3_perform 131 = .ok (.ireturn, 1) := by decide +kernel
theorem dX3_perform_132 : decode cX3_perform 132 = .ok (.aload_n 0, 1) := by decide +kernel
theorem dX3_perform_133 : decode cX3_perform 133 = .ok (.aload_n 1, 1) := by decide +kernel
theorem dX3_perform_134 : decode cX3_perform 134 = .ok (.aload_n 2, 1) := by decide +kernel
theorem dX3_perform_135 : decode cX3_perform 135 = .ok (.getfield 120, 3) := by decide +kernel
theorem dX3_perform_138 : decode cX3_perform 138 = .ok (.aload_n 0, 1) := by decide +kernel
theorem dX3_perform_139 : decode cX3_perform 139 = .ok (.aload_n 1, 1) := by decide +kernel
theorem dX3_perform_140 : decode cX3_perform 140 = .ok (.aload_n 2, 1) := by decide +kernel
theorem dX3_perform_141 : decode cX3_perform 141 = .ok (.invokevirtual 132, 3) := by decide +kernel
theorem dX3_perform_144 : decode cX3_perform 144 = .ok (.invokevirtual 139, 3) := by decide +kernel
theorem dX3_perform_147 : decode cX3_perform 147 = .ok (.ireturn, 1) := by decide +kernel
theorem dX3_perform_148 : decode cX3_perform 148 = .ok (.aload_n 0, 1) := by decide +kernel
theorem dX3_perform_149 : decode cX3_perform 149 = .ok (.aload_n 1, 1) := by decide +kernel
theorem dX3_perform_150 : decode cX3_perform 150 = .ok (.aload_n 1, 1) := by decide +kernel
theorem dX3_perform_151 : decode cX3_perform 151 = .ok (.aload_n 2, 1) := by decide +kernel
theorem dX3_perform_152 : decode cX3_perform 152 = .ok (.getfield 120, 3) := by decide +kernel
theorem dX3_perform_155 : decode cX3_perform 155 = .ok (.invokevirtual 129, 3) := by decide +kernel
theorem dX3_perform_158 : decode cX3_perform 158 = .ok (.invokevirtual 142, 3) := by decide +kernel
theorem dX3_perform_161 : decode cX3_perform 161 = .ok (.ireturn, 1) := by decide +kernel
theorem dX3_perform_162 : decode cX3_perform 162 = .ok (.aload_n 0, 1) := by decide +kernel
theorem dX3_perform_163 : decode cX3_perform 163 = .ok (.aload_n 1, 1) := by decide +kernel
theorem dX3_perform_164 : decode cX3_perform 164 = .ok (.aload_n 1, 1) := by decide +kernel
theorem dX3_perform_165 : decode cX3_perform 165 = .ok (.aload_n 2, 1) := by decide +kernel
theorem dX3_perform_166 : decode cX3_perform 166 = .ok (.getfield 120, 3) := by decide +kernel
theorem dX3_perform_169 : decode cX3_perform 169 = .ok (.invokevirtual 129, 3) := by decide +kernel
theorem dX3_perform_172 : decode cX3_perform 172 = .ok (.aload_n 1, 1) := by decide +kernel
theorem dX3_perform_173 : decode cX3_perform 173 = .ok (.aload_n 2, 1) := by decide +kernel
theorem dX3_perform_174 : decode cX3_perform 174 = .ok (.getfield 123, 3) := by decide +kernel
theorem dX3_perform_177 : decode cX3_perform 177 = .ok (.invokevirtual 129, 3) := by decide +kernel
theorem dX3_perform_180 : decode cX3_perform 180 = .ok (.invokevirtual 145, 3) := by decide +kernel
theorem dX3_perform_183 : decode cX3_perform 183 = .ok (.ireturn, 1) := by decide +kernel
theorem dX3_perform_184 : decode cX3_perform 184 = .ok (.aload_n 0, 1) := by decide +kernel
theorem dX3_perform_185 : decode cX3_perform 185 = .ok (.aload_n 1, 1) := by decide +kernel
theorem dX3_perform_186 : decode cX3_perform 186 = .ok (.aload_n 2, 1) := by decide +kernel
theorem dX3_perform_187 : decode cX3_perform 187 = .ok (.getfield 120, 3) := by decide +kernel
theorem dX3_perform_190 : decode cX3_perform 190 = .ok (.aload_n 1, 1) := by decide +kernel
theorem dX3_perform_191 : decode cX3_perform 191 = .ok (.aload_n 2, 1) := by decide +kernel
theorem dX3_perform_192 : decode cX3_perform 192 = .ok (.getfield 123, 3) := by decide +kernel
theorem dX3_perform_195 : decode cX3_perform 195 = .ok (.invokevirtual 129, 3) := by decide +kernel
theorem dX3_perform_198 : decode cX3_perform 198 = .ok (.invokevirtual 148, 3) := by decide +kernel
theorem dX3_perform_201 : decode cX3_perform 201 = .ok (.ireturn, 1) := by decide +kernel
theorem dX3_perform_202 : decode cX3_perform 202 = .ok (.aload_n 0, 1) := by decide +kernel
theorem dX3_perform_203 : decode cX3_perform 203 = .ok (.aload_n 2, 1) := by decide +kernel
theorem dX3_perform_204 : decode cX3_perform 204 = .ok (.getfield 111, 3) := by decide +kernel
theorem dX3_perform_207 : decode cX3_perform 207 = .ok (.aload_n 2, 1) := by decide +kernel
theorem dX3_perform_208 : decode cX3_perform 208 = .ok (.getfield 123, 3) := by decide +kernel
theorem dX3_perform_211 : decode cX3_perform 211 = .ok (.iload_n 3, 1) := by decide +kernel
theorem dX3_perform_212 : decode cX3_perform 212 = .ok (.invokevirtual 151, 3) := by decide +kernel
theorem dX3_perform_215 : decode cX3_perform 215 = .ok (.ireturn, 1) := by decide +kernel
theorem dX3_perform_216 : decode cX3_perform 216 = .ok (.aload_n 0, 1) := by decide +kernel
theorem dX3_perform_217 : decode cX3_perform 217 = .ok (.aload_n 2, 1) := by decide +kernel
theorem dX3_perform_218 : decode cX3_perform 218 = .ok (.getfield 120, 3) := by decide +kernel
theorem dX3_perform_221 : decode cX3_perform 221 = .ok (.invokevirtual 41, 3) := by decide +kernel
theorem dX3_perform_224 : decode cX3_perform 224 = .ok (.ireturn, 1) := by decide +kernel
theorem dX3_perform_225 : decode cX3_perform 225 = .ok (.aload_n 0, 1) := by decide +kernel
theorem dX3_perform_226 : decode cX3_perform 226 = .ok (.getfield 12, 3) := by decide +kernel
theorem dX3_perform_229 : decode cX3_perform 229 = .ok (.iconst 3, 1) := by decide +kernel
theorem dX3_perform_230 : decode cX3_perform 230 = .ok (.aload_n 2, 1) := by decide +kernel
theorem dX3_perform_231 : decode cX3_perform 231 = .ok (.getfield 120, 3) := by decide +kernel
theorem dX3_perform_234 : decode cX3_perform 234 = .ok (.invokevirtual 48, 3) := by decide +kernel
theorem dX3_perform_237 : decode cX3_perform 237 = .ok (.iconst (-1), 1) := by decide +kernel
theorem dX3_perform_238 : decode cX3_perform 238 = .ok (.ireturn, 1) := by decide +kernel
theorem dX3_perform_239 : decode cX3_perform 239 = .ok (.aload_n 1, 1) := by decide +kernel
theorem dX3_perform_240 : decode cX3_perform 240 = .ok (.invokevirtual 154, 3) := by decide +kernel
theorem dX3_perform_243 : decode cX3_perform 243 = .ok (.iconst (-1), 1) := by decide +kernel
theorem dX3_perform_244 : decode cX3_perform 244 = .ok (.ireturn, 1) := by decide +kernel
theorem dX3_perform_245 : decode cX3_perform 245 = .ok (.iconst (-1), 1) := by decide +kernel
theorem dX3_perform_246 : decode cX3_perform 246 = .ok (.ireturn, 1) := by decide +kernel
theorem dX3_readOther_0 : decode cX3_readOther 0 = .ok (.aload_n 2, 1) := by decide +kernel
theorem dX3_readOther_1 : decode cX3_readOther 1 = .ok (.getfield 111, 3) := by decide +kernel
theorem dX3_readOther_4 : decode cX3_readOther 4 = .ok (.astore_n 3, 1) := by decide +kernel
theorem dX3_readOther_5 : decode cX3_readOther 5 = .ok (.aload_n 3, 1) := by decide +kernel
theorem dX3_readOther_6 : decode cX3_readOther 6 = .ok (.aload_n 1, 1) := by decide +kernel
theorem dX3_readOther_7 : decode cX3_readOther 7 = .ok (.if_acmp .eq 35, 3) := by decide +kernel
theorem dX3_readOther_10 : decode cX3_readOther 10 = .ok (.aload_n 3, 1) := by decide +kernel
theorem dX3_readOther_11 : decode cX3_readOther 11 = .ok (.getfield 36, 3) := by decide +kernel
theorem dX3_readOther_14 : decode cX3_readOther 14 = .ok (.iconst 1, 1) := by decide +kernel
theorem dX3_readOther_15 : decode cX3_readOther 15 = .ok (.if_icmp .ne 27, 3) := by decide +kernel
theorem dX3_readOther_18 : decode cX3_readOther 18 = .ok (.aload_n 3, 1) := by decide +kernel
theorem dX3_readOther_19 : decode cX3_readOther 19 = .ok (.aload_n 2, 1) := by decide +kernel
theorem dX3_readOther_20 : decode cX3_readOther 20 = .ok (.getfield 136, 3) := by decide +kernel
theorem dX3_readOther_23 : decode cX3_readOther 23 = .ok (.invokevirtual 157, 3) := by decide +kernel
theorem dX3_readOther_26 : decode cX3_readOther 26 = .ok (.ifCond .ne 16, 3) := by decide +kernel
theorem dX3_readOther_29 : decode cX3_readOther 29 = .ok (.aload_n 0, 1) := by decide +kernel
theorem dX3_readOther_30 : decode cX3_readOther 30 = .ok (.getfield 12, 3) := by decide +kernel
theorem dX3_readOther_33 : decode cX3_readOther 33 = .ok (.dup, 1) := by decide +kernel
theorem dX3_readOther_34 : decode cX3_readOther 34 = .ok (.getfield 161, 3) := by decide +kernel
theorem dX3_readOther_37 : decode cX3_readOther 37 = .ok (.iconst 1, 1) := by decide +kernel
theorem dX3_readOther_38 : decode cX3_readOther 38 = .ok (.iadd, 1) := by decide +kernel
theorem dX3_readOther_39 : decode cX3_readOther 39 = .ok (.putfield 161, 3) := by decide +kernel
theorem dX3_readOther_42 : decode cX3_readOther 42 = .ok (.aload_n 3, 1) := by decide +kernel
theorem dX3_readOther_43 : decode cX3_readOther 43 = .ok (.aload_n 2, 1) := by decide +kernel
theorem dX3_readOther_44 : decode cX3_readOther 44 = .ok (.getfield 136, 3) := by decide +kernel
theorem dX3_readOther_47 : decode cX3_readOther 47 = .ok (.invokevirtual 129, 3) := by decide +kernel
theorem dX3_readOther_50 : decode cX3_readOther 50 = .ok (.ireturn, 1) := by decide +kernel
theorem dX3_divide_0 : decode cX3_divide 0 = .ok (.iload_n 3, 1) := by decide +kernel
theorem dX3_divide_1 : decode cX3_divide 1 = .ok (.ifCond .ne 9, 3) := by decide +kernel
theorem dX3_divide_4 : decode cX3_divide 4 = .ok (.aload_n 0, 1) := by decide +kernel
theorem dX3_divide_5 : decode cX3_divide 5 = .ok (.iconst 3, 1) := by decide +kernel
theorem dX3_divide_6 : decode cX3_divide 6 = .ok (.invokevirtual 41, 3) := by decide +kernel
theorem dX3_divide_9 : decode cX3_divide 9 = .ok (.ireturn, 1) := by decide +kernel
theorem dX3_divide_10 : decode cX3_divide 10 = .ok (.aload_n 1, 1) := by decide +kernel
theorem dX3_divide_11 : decode cX3_divide 11 = .ok (.iload_n 2, 1) := by decide +kernel
theorem dX3_divide_12 : decode cX3_divide 12 = .ok (.aload_n 1, 1) := by decide +kernel
theorem dX3_divide_13 : decode cX3_divide 13 = .ok (.iload_n 2, 1) := by decide +kernel
theorem dX3_divide_14 : decode cX3_divide 14 = .ok (.invokevirtual 129, 3) := by decide +kernel
theorem dX3_divide_17 : decode cX3_divide 17 = .ok (.iload_n 3, 1) := by decide +kernel
theorem dX3_divide_18 : decode cX3_divide 18 = .ok (.idiv, 1) := by decide +kernel
theorem dX3_divide_19 : decode cX3_divide 19 = .ok (.invokevirtual 126, 3) := by decide +kernel
theorem dX3_divide_22 : decode cX3_divide 22 = .ok (.iconst (-1), 1) := by decide +kernel
theorem dX3_divide_23 : decode cX3_divide 23 = .ok (.ireturn, 1) := by decide +kernel
theorem dX3_makeRow_0 : decode cX3_makeRow 0 = .ok (.iload_n 2, 1) := by decide +kernel
theorem dX3_makeRow_1 : decode cX3_makeRow 1 = .ok (.ifCond .ge 10, 3) := by decide +kernel
theorem dX3_makeRow_4 : decode cX3_makeRow 4 = .ok (.aload_n 0, 1) := by decide +kernel
theorem dX3_makeRow_5 : decode cX3_makeRow 5 = .ok (.bipush 6, 2) := by decide +kernel
theorem dX3_makeRow_7 : decode cX3_makeRow 7 = .ok (.invokevirtual 41, 3) := by decide +kernel
theorem dX3_makeRow_10 : decode cX3_makeRow 10 = .ok (.ireturn, 1) := by decide +kernel
theorem dX3_makeRow_11 : decode cX3_makeRow 11 = .ok (.aload_n 1, 1) := by decide +kernel
theorem dX3_makeRow_12 : decode cX3_makeRow 12 = .ok (.iload_n 2, 1) := by decide +kernel
theorem dX3_makeRow_13 : decode cX3_makeRow 13 = .ok (.invokevirtual 164, 3) := by decide +kernel
theorem dX3_makeRow_16 : decode cX3_makeRow 16 = .ok (.iconst (-1), 1) := by decide +kernel
theorem dX3_makeRow_17 : decode cX3_makeRow 17 = .ok (.ireturn, 1) := by decide +kernel
theorem dX3_putItem_0 : decode cX3_putItem 0 = .ok (.aload_n 1, 1) := by decide +kernel
theorem dX3_putItem_1 : decode cX3_putItem 1 = .ok (.iload_n 2, 1) := by decide +kernel
theorem dX3_putItem_2 : decode cX3_putItem 2 = .ok (.invokevirtual 167, 3) := by decide +kernel
theorem dX3_putItem_5 : decode cX3_putItem 5 = .ok (.ifCond .ne 21, 3) := by decide +kernel
theorem dX3_putItem_8 : decode cX3_putItem 8 = .ok (.aload_n 0, 1) := by decide +kernel
theorem dX3_putItem_9 : decode cX3_putItem 9 = .ok (.aload_n 1, 1) := by decide +kernel
theorem dX3_putItem_10 : decode cX3_putItem 10 = .ok (.getfield 170, 3) := by decide +kernel
theorem dX3_putItem_13 : decode cX3_putItem 13 = .ok (.iconst (-1), 1) := by decide +kernel
theorem dX3_putItem_14 : decode cX3_putItem 14 = .ok (.if_icmp .ne 7, 3) := by decide +kernel
theorem dX3_putItem_17 : decode cX3_putItem 17 = .ok (.iconst 4, 1) := by decide +kernel
theorem dX3_putItem_18 : decode cX3_putItem 18 = .ok (.goto 4, 3) := by decide +kernel
theorem dX3_putItem_21 : decode cX3_putItem 21 = .ok (.iconst 5, 1) := by decide +kernel
theorem dX3_putItem_22 : decode cX3_putItem 22 = .ok (.invokevirtual 41, 3) := by decide +kernel
theorem dX3_putItem_25 : decode cX3_putItem 25 = .ok (.ireturn, 1) := by decide +kernel
theorem dX3_putItem_26 : decode cX3_putItem 26 = .ok (.aload_n 1, 1) := by decide +kernel
theorem dX3_putItem_27 : decode cX3_putItem 27 = .ok (.getfield 173, 3) := by decide +kernel
theorem dX3_putItem_30 : decode cX3_putItem 30 = .ok (.iload_n 2, 1) := by decide +kernel
theorem dX3_putItem_31 : decode cX3_putItem 31 = .ok (.iload_n 3, 1) := by decide +kernel
theorem dX3_putItem_32 : decode cX3_putItem 32 = .ok (.iastore, 1) := by decide +kernel
theorem dX3_putItem_33 : decode cX3_putItem 33 = .ok (.iconst (-1), 1) := by decide +kernel
theorem dX3_putItem_34 : decode cX3_putItem 34 = .ok (.ireturn, 1) := by decide +kernel
theorem dX3_takeItem_0 : decode cX3_takeItem 0 = .ok (.aload_n 1, 1) := by decide +kernel
theorem dX3_takeItem_1 : decode cX3_takeItem 1 = .ok (.iload_n 3, 1) := by decide +kernel
theorem dX3_takeItem_2 : decode cX3_takeItem 2 = .ok (.invokevirtual 167, 3) := by decide +kernel
theorem dX3_takeItem_5 : decode cX3_takeItem 5 = .ok (.ifCond .ne 21, 3) := by decide +kernel
theorem dX3_takeItem_8 : decode cX3_takeItem 8 = .ok (.aload_n 0, 1) := by decide +kernel
theorem dX3_takeItem_9 : decode cX3_takeItem 9 = .ok (.aload_n 1, 1) := by decide +kernel
theorem dX3_takeItem_10 : decode cX3_takeItem 10 = .ok (.getfield 170, 3) := by decide +kernel
theorem dX3_takeItem_13 : decode cX3_takeItem 13 = .ok (.iconst (-1), 1) := by decide +kernel
theorem dX3_takeItem_14 : decode cX3_takeItem 14 = .ok (.if_icmp .ne 7, 3) := by decide +kernel
theorem dX3_takeItem_17 : decode cX3_takeItem 17 = .ok (.iconst 4, 1) := by decide +kernel
theorem dX3_takeItem_18 : decode cX3_takeItem 18 = .ok (.goto 4, 3) := by decide +kernel
theorem dX3_takeItem_21 : decode cX3_takeItem 21 = .ok (.iconst 5, 1) := by decide +kernel
theorem dX3_takeItem_22 : decode cX3_takeItem 22 = .ok (.invokevirtual 41, 3) := by decide +kernel
theorem dX3_takeItem_25 : decode cX3_takeItem 25 = .ok (.ireturn, 1) := by decide +kernel
theorem dX3_takeItem_26 : decode cX3_takeItem 26 = .ok (.aload_n 1, 1) := by decide +kernel
theorem dX3_takeItem_27 : decode cX3_takeItem 27 = .ok (.iload_n 2, 1) := by decide +kernel
theorem dX3_takeItem_28 : decode cX3_takeItem 28 = .ok (.aload_n 1, 1) := by decide +kernel
theorem dX3_takeItem_29 : decode cX3_takeItem 29 = .ok (.getfield 173, 3) := by decide +kernel
theorem dX3_takeItem_32 : decode cX3_takeItem 32 = .ok (.iload_n 3, 1) := by decide +kernel
theorem dX3_takeItem_33 : decode cX3_takeItem 33 = .ok (.iaload, 1) := by decide +kernel
theorem dX3_takeItem_34 : decode cX3_takeItem 34 = .ok (.invokevirtual 126, 3) := by decide +kernel
theorem dX3_takeItem_37 : decode cX3_takeItem 37 = .ok (.iconst (-1), 1) := by decide +kernel
theorem dX3_takeItem_38 : decode cX3_takeItem 38 = .ok (.ireturn, 1) := by decide +kernel
theorem dX3_enter_0 : decode cX3_enter 0 = .ok (.iload_n 3, 1) := by decide +kernel
theorem dX3_enter_1 : decode cX3_enter 1 = .ok (.bipush 8, 2) := by decide +kernel
theorem dX3_enter_3 : decode cX3_enter 3 = .ok (.if_icmp .lt 10, 3) := by decide +kernel
theorem dX3_enter_6 : decode cX3_enter 6 = .ok (.aload_n 0, 1) := by decide +kernel
theorem dX3_enter_7 : decode cX3_enter 7 = .ok (.bipush 9, 2) := by decide +kernel
theorem dX3_enter_9 : decode cX3_enter 9 = .ok (.invokevirtual 41, 3) := by decide +kernel
theorem dX3_enter_12 : decode cX3_enter 12 = .ok (.ireturn, 1) := by decide +kernel
theorem dX3_enter_13 : decode cX3_enter 13 = .ok (.aload_n 0, 1) := by decide +kernel
theorem dX3_enter_14 : decode cX3_enter 14 = .ok (.getfield 12, 3) := by decide +kernel
theorem dX3_enter_17 : decode cX3_enter 17 = .ok (.iconst 4, 1) := by decide +kernel
theorem dX3_enter_18 : decode cX3_enter 18 = .ok (.bipush 10, 2) := by decide +kernel
theorem dX3_enter_20 : decode cX3_enter 20 = .ok (.aload_n 1, 1) := by decide +kernel
theorem dX3_enter_21 : decode cX3_enter 21 = .ok (.getfield 45, 3) := by decide +kernel
theorem dX3_enter_24 : decode cX3_enter 24 = .ok (.imul, 1) := by decide +kernel
theorem dX3_enter_25 : decode cX3_enter 25 = .ok (.iload_n 2, 1) := by decide +kernel
theorem dX3_enter_26 : decode cX3_enter 26 = .ok (.iadd, 1) := by decide +kernel
theorem dX3_enter_27 : decode cX3_enter 27 = .ok (.invokevirtual 48, 3) := by decide +kernel
theorem dX3_enter_30 : decode cX3_enter 30 = .ok (.aload_n 0, 1) := by decide +kernel
theorem dX3_enter_31 : decode cX3_enter 31 = .ok (.aload_n 1, 1) := by decide +kernel
theorem dX3_enter_32 : decode cX3_enter 32 = .ok (.iload_n 2, 1) := by decide +kernel
theorem dX3_enter_33 : decode cX3_enter 33 = .ok (.iload_n 3, 1) := by decide +kernel
theorem dX3_enter_34 : decode cX3_enter 34 = .ok (.invokevirtual 25, 3) := by decide +kernel
theorem dX3_enter_37 : decode cX3_enter 37 = .ok (.ireturn, 1) := by decide +kernel
theorem dX5_init_0 : decode cX5_init 0 = .ok (.aload_n 0, 1) := by decide +kernel
theorem dX5_init_1 : decode cX5_init 1 = .ok (.invokespecial 5, 3) := by decide +kernel
theorem dX5_init_4 : decode cX5_init 4 = .ok (.aload_n 0, 1) := by decide +kernel
theorem dX5_init_5 : decode cX5_init 5 = .ok (.iconst 0, 1) := by decide +kernel
theorem dX5_init_6 : decode cX5_init 6 = .ok (.putfield 11, 3) := by decide +kernel
theorem dX5_init_9 : decode cX5_init 9 = .ok (.aload_n 0, 1) := by decide +kernel
theorem dX5_init_10 : decode cX5_init 10 = .ok (.lconst 0, 1) := by decide +kernel
theorem dX5_init_11 : decode cX5_init 11 = .ok (.putfield 17, 3) := by decide +kernel
theorem dX5_init_14 : decode cX5_init 14 = .ok (.aload_n 0, 1) := by decide +kernel
theorem dX5_init_15 : decode cX5_init 15 = .ok (.bipush 48, 2) := by decide +kernel
theorem dX5_init_17 : decode cX5_init 17 = .ok (.anewarray 21, 3) := by decide +kernel
theorem dX5_init_20 : decode cX5_init 20 = .ok (.putfield 23, 3) := by decide +kernel
theorem dX5_init_23 : decode cX5_init 23 = .ok (.aload_n 0, 1) := by decide +kernel
theorem dX5_init_24 : decode cX5_init 24 = .ok (.iconst 0, 1) := by decide +kernel
theorem dX5_init_25 : decode cX5_init 25 = .ok (.putfield 27, 3) := by decide +kernel
theorem dX5_init_28 : decode cX5_init 28 = .ok (.return_, 1) := by decide +kernel
theorem dX5_ofMethod_0 : decode cX5_ofMethod 0 = .ok (.aload_n 0, 1) := by decide +kernel
theorem dX5_ofMethod_1 : decode cX5_ofMethod 1 = .ok (.invokevirtual 30, 3) := by decide +kernel
theorem dX5_ofMethod_4 : decode cX5_ofMethod 4 = .ok (.aload_n 0, 1) := by decide +kernel
theorem dX5_ofMethod_5 : decode cX5_ofMethod 5 = .ok (.aload_n 1, 1) := by decide +kernel
theorem dX5_ofMethod_6 : decode cX5_ofMethod 6 = .ok (.invokevirtual 33, 3) := by decide +kernel
theorem dX5_ofMethod_9 : decode cX5_ofMethod 9 = .ok (.aload_n 0, 1) := by decide +kernel
theorem dX5_ofMethod_10 : decode cX5_ofMethod 10 = .ok (.aload_n 1, 1) := by decide +kernel
theorem dX5_ofMethod_11 : decode cX5_ofMethod 11 = .ok (.getfield 37, 3) := by decide +kernel
theorem dX5_ofMethod_14 : decode cX5_ofMethod 14 = .ok (.iload_n 2, 1) := by decide +kernel
theorem dX5_ofMethod_15 : decode cX5_ofMethod 15 = .ok (.aaload, 1) := by decide +kernel
theorem dX5_ofMethod_16 : decode cX5_ofMethod 16 = .ok (.invokevirtual 38, 3) := by decide +kernel
theorem dX5_ofMethod_19 : decode cX5_ofMethod 19 = .ok (.iconst 0, 1) := by decide +kernel
theorem dX5_ofMethod_20 : decode cX5_ofMethod 20 = .ok (.istore_n 3, 1) := by decide +kernel
theorem dX5_ofMethod_21 : decode cX5_ofMethod 21 = .ok (.iload_n 3, 1) := by decide +kernel
theorem dX5_ofMethod_22 : decode cX5_ofMethod 22 = .ok (.aload_n 0, 1) := by decide +kernel
theorem dX5_ofMethod_23 : decode cX5_ofMethod 23 = .ok (.getfield 27, 3) := by decide +kernel
theorem dX5_ofMethod_26 : decode cX5_ofMethod 26 = .ok (.if_icmp .ge 25, 3) := by decide +kernel
theorem dX5_ofMethod_29 : decode cX5_ofMethod 29 = .ok (.iload_n 3, 1) := by decide +kernel
theorem dX5_ofMethod_30 : decode cX5_ofMethod 30 = .ok (.bipush 48, 2) := by decide +kernel
theorem dX5_ofMethod_32 : decode cX5_ofMethod 32 = .ok (.if_icmp .ge 19, 3) := by decide +kernel
theorem dX5_ofMethod_35 : decode cX5_ofMethod 35 = .ok (.aload_n 0, 1) := by decide +kernel
theorem dX5_ofMethod_36 : decode cX5_ofMethod 36 = .ok (.aload_n 0, 1) := by decide +kernel
theorem dX5_ofMethod_37 : decode cX5_ofMethod 37 = .ok (.getfield 23, 3) := by decide +kernel
theorem dX5_ofMethod_40 : decode cX5_ofMethod 40 = .ok (.iload_n 3, 1) := by decide +kernel
theorem dX5_ofMethod_41 : decode cX5_ofMethod 41 = .ok (.aaload, 1) := by decide +kernel
theorem dX5_ofMethod_42 : decode cX5_ofMethod 42 = .ok (.invokevirtual 42, 3) := by decide +kernel
theorem dX5_ofMethod_45 : decode cX5_ofMethod 45 = .ok (.iinc 3 1, 3) := by decide +kernel
theorem dX5_ofMethod_48 : decode cX5_ofMethod 48 = .ok (.goto (-27), 3) := by decide +kernel
theorem dX5_ofMethod_51 : decode cX5_ofMethod 51 = .ok (.aload_n 0, 1) := by decide +kernel
theorem dX5_ofMethod_52 : decode cX5_ofMethod 52 = .ok (.getfield 11, 3) := by decide +kernel
theorem dX5_ofMethod_55 : decode cX5_ofMethod 55 = .ok (.ireturn, 1) := by decide +kernel
theorem dX5_ofStart_0 : decode cX5_ofStart 0 = .ok (.aload_n 0, 1) := by decide +kernel
theorem dX5_ofStart_1 : decode cX5_ofStart 1 = .ok (.invokevirtual 30, 3) := by decide +kernel
theorem dX5_ofStart_4 : decode cX5_ofStart 4 = .ok (.aload_n 0, 1) := by decide +kernel
theorem dX5_ofStart_5 : decode cX5_ofStart 5 = .ok (.aload_n 1, 1) := by decide +kernel
theorem dX5_ofStart_6 : decode cX5_ofStart 6 = .ok (.invokevirtual 33, 3) := by decide +kernel
theorem dX5_ofStart_9 : decode cX5_ofStart 9 = .ok (.aload_n 0, 1) := by decide +kernel
theorem dX5_ofStart_10 : decode cX5_ofStart 10 = .ok (.getfield 11, 3) := by decide +kernel
theorem dX5_ofStart_13 : decode cX5_ofStart 13 = .ok (.ireturn, 1) := by decide +kernel
theorem dX5_clear_0 : decode cX5_clear 0 = .ok (.aload_n 0, 1) := by decide +kernel
theorem dX5_clear_1 : decode cX5_clear 1 = .ok (.iconst 0, 1) := by decide +kernel
theorem dX5_clear_2 : decode cX5_clear 2 = .ok (.putfield 11, 3) := by decide +kernel
theorem dX5_clear_5 : decode cX5_clear 5 = .ok (.aload_n 0, 1) := by decide +kernel
theorem dX5_clear_6 : decode cX5_clear 6 = .ok (.lconst 0, 1) := by decide +kernel
theorem dX5_clear_7 : decode cX5_clear 7 = .ok (.putfield 17, 3) := by decide +kernel
theorem dX5_clear_10 : decode cX5_clear 10 = .ok (.aload_n 0, 1) := by decide +kernel
theorem dX5_clear_11 : decode cX5_clear 11 = .ok (.iconst 0, 1) := by decide +kernel
theorem dX5_clear_12 : decode cX5_clear 12 = .ok (.putfield 27, 3) := by decide +kernel
theorem dX5_clear_15 : decode cX5_clear 15 = .ok (.return_, 1) := by decide +kernel
theorem dX5_follow_0 : decode cX5_follow 0 = .ok (.iconst 0, 1) := by decide +kernel
theorem dX5_follow_1 : decode cX5_follow 1 = .ok (.istore_n 2, 1) := by decide +kernel
theorem dX5_follow_2 : decode cX5_follow 2 = .ok (.iload_n 2, 1) := by decide +kernel
theorem dX5_follow_3 : decode cX5_follow 3 = .ok (.aload_n 1, 1) := by decide +kernel
theorem dX5_follow_4 : decode cX5_follow 4 = .ok (.getfield 45, 3) := by decide +kernel
theorem dX5_follow_7 : decode cX5_follow 7 = .ok (.if_icmp .ge 56, 3) := by decide +kernel
theorem dX5_follow_10 : decode cX5_follow 10 = .ok (.aload_n 1, 1) := by decide +kernel
theorem dX5_follow_11 : decode cX5_follow 11 = .ok (.getfield 46, 3) := by decide +kernel
theorem dX5_follow_14 : decode cX5_follow 14 = .ok (.iload_n 2, 1) := by decide +kernel
theorem dX5_follow_15 : decode cX5_follow 15 = .ok (.aaload, 1) := by decide +kernel
theorem dX5_follow_16 : decode cX5_follow 16 = .ok (.astore_n 3, 1) := by decide +kernel
theorem dX5_follow_17 : decode cX5_follow 17 = .ok (.aload_n 3, 1) := by decide +kernel
theorem dX5_follow_18 : decode cX5_follow 18 = .ok (.invokevirtual 50, 3) := by decide +kernel
theorem dX5_follow_21 : decode cX5_follow 21 = .ok (.ifCond .eq 11, 3) := by decide +kernel
theorem dX5_follow_24 : decode cX5_follow 24 = .ok (.aload_n 0, 1) := by decide +kernel
theorem dX5_follow_25 : decode cX5_follow 25 = .ok (.aload_n 3, 1) := by decide +kernel
theorem dX5_follow_26 : decode cX5_follow 26 = .ok (.getfield 56, 3) := by decide +kernel
theorem dX5_follow_29 : decode cX5_follow 29 = .ok (.invokevirtual 33, 3) := by decide +kernel
theorem dX5_follow_32 : decode cX5_follow 32 = .ok (.aload_n 3, 1) := by decide +kernel
theorem dX5_follow_33 : decode cX5_follow 33 = .ok (.getfield 60, 3) := by decide +kernel
theorem dX5_follow_36 : decode cX5_follow 36 = .ok (.bipush 7, 2) := by decide +kernel
theorem dX5_follow_38 : decode cX5_follow 38 = .ok (.if_icmp .ne 19, 3) := by decide +kernel
theorem dX5_follow_41 : decode cX5_follow 41 = .ok (.aload_n 0, 1) := by decide +kernel
theorem dX5_follow_42 : decode cX5_follow 42 = .ok (.aload_n 3, 1) := by decide +kernel
theorem dX5_follow_43 : decode cX5_follow 43 = .ok (.getfield 56, 3) := by decide +kernel
theorem dX5_follow_46 : decode cX5_follow 46 = .ok (.getfield 37, 3) := by decide +kernel
theorem dX5_follow_49 : decode cX5_follow 49 = .ok (.aload_n 3, 1) := by decide +kernel
theorem dX5_follow_50 : decode cX5_follow 50 = .ok (.getfield 63, 3) := by decide +kernel
theorem dX5_follow_53 : decode cX5_follow 53 = .ok (.aaload, 1) := by decide +kernel
theorem dX5_follow_54 : decode cX5_follow 54 = .ok (.invokevirtual 38, 3) := by decide +kernel
theorem dX5_follow_57 : decode cX5_follow 57 = .ok (.iinc 2 1, 3) := by decide +kernel
theorem dX5_follow_60 : decode cX5_follow 60 = .ok (.goto (-58), 3) := by decide +kernel
theorem dX5_follow_63 : decode cX5_follow 63 = .ok (.return_, 1) := by decide +kernel
theorem dX5_want_0 : decode cX5_want 0 = .ok (.aload_n 1, 1) := by decide +kernel
theorem dX5_want_1 : decode cX5_want 1 = .ok (.astore_n 2, 1) := by decide +kernel
theorem dX5_want_2 : decode cX5_want 2 = .ok (.iconst 0, 1) := by decide +kernel
theorem dX5_want_3 : decode cX5_want 3 = .ok (.istore_n 3, 1) := by decide +kernel
theorem dX5_want_4 : decode cX5_want 4 = .ok (.iload_n 3, 1) := by decide +kernel
theorem dX5_want_5 : decode cX5_want 5 = .ok (.bipush 12, 2) := by decide +kernel
theorem dX5_want_7 : decode cX5_want 7 = .ok (.if_icmp .ge 45, 3) := by decide +kernel
theorem dX5_want_10 : decode cX5_want 10 = .ok (.aload_n 2, 1) := by decide +kernel
theorem dX5_want_11 : decode cX5_want 11 = .ok (.ifnull 41, 3) := by decide +kernel
theorem dX5_want_14 : decode cX5_want 14 = .ok (.aload_n 0, 1) := by decide +kernel
theorem dX5_want_15 : decode cX5_want 15 = .ok (.aload_n 2, 1) := by decide +kernel
theorem dX5_want_16 : decode cX5_want 16 = .ok (.invokevirtual 66, 3) := by decide +kernel
theorem dX5_want_19 : decode cX5_want 19 = .ok (.ifCond .ne 33, 3) := by decide +kernel
theorem dX5_want_22 : decode cX5_want 22 = .ok (.aload_n 0, 1) := by decide +kernel
theorem dX5_want_23 : decode cX5_want 23 = .ok (.aload_n 2, 1) := by decide +kernel
theorem dX5_want_24 : decode cX5_want 24 = .ok (.invokevirtual 70, 3) := by decide +kernel
theorem dX5_want_27 : decode cX5_want 27 = .ok (.aload_n 2, 1) := by decide +kernel
theorem dX5_want_28 : decode cX5_want 28 = .ok (.getfield 73, 3) := by decide +kernel
theorem dX5_want_31 : decode cX5_want 31 = .ok (.ifCond .ne 10, 3) := by decide +kernel
theorem dX5_want_34 : decode cX5_want 34 = .ok (.aload_n 0, 1) := by decide +kernel
theorem dX5_want_35 : decode cX5_want 35 = .ok (.aload_n 2, 1) := by decide +kernel
theorem dX5_want_36 : decode cX5_want 36 = .ok (.bipush 12, 2) := by decide +kernel
theorem dX5_want_38 : decode cX5_want 38 = .ok (.invokevirtual 77, 3) := by decide +kernel
theorem dX5_want_41 : decode cX5_want 41 = .ok (.aload_n 2, 1) := by decide +kernel
theorem dX5_want_42 : decode cX5_want 42 = .ok (.getfield 81, 3) := by decide +kernel
theorem dX5_want_45 : decode cX5_want 45 = .ok (.astore_n 2, 1) := by decide +kernel
theorem dX5_want_46 : decode cX5_want 46 = .ok (.iinc 3 1, 3) := by decide +kernel
theorem dX5_want_49 : decode cX5_want 49 = .ok (.goto (-45), 3) := by decide +kernel
theorem dX5_want_52 : decode cX5_want 52 = .ok (.return_, 1) := by decide +kernel
theorem dX5_lookThrough_0 : decode cX5_lookThrough 0 = .ok (.iconst 0, 1) := by decide +kernel
theorem dX5_lookThrough_1 : decode cX5_lookThrough 1 = .ok (.istore_n 3, 1) := by decide +kernel
theorem dX5_lookThrough_2 : decode cX5_lookThrough 2 = .ok (.iload_n 3, 1) := by decide +kernel
theorem dX5_lookThrough_3 : decode cX5_lookThrough 3 = .ok (.aload_n 1, 1) := by decide +kernel
theorem dX5_lookThrough_4 : decode cX5_lookThrough 4 = .ok (.getfield 84, 3) := by decide +kernel
theorem dX5_lookThrough_7 : decode cX5_lookThrough 7 = .ok (.if_icmp .ge 44, 3) := by decide +kernel
theorem dX5_lookThrough_10 : decode cX5_lookThrough 10 = .ok (.iload_n 2, 1) := by decide +kernel
theorem dX5_lookThrough_11 : decode cX5_lookThrough 11 = .ok (.ifCond .le 40, 3) := by decide +kernel
theorem dX5_lookThrough_14 : decode cX5_lookThrough 14 = .ok (.aload_n 1, 1) := by decide +kernel
theorem dX5_lookThrough_15 : decode cX5_lookThrough 15 = .ok (.getfield 87, 3) := by decide +kernel
theorem dX5_lookThrough_18 : decode cX5_lookThrough 18 = .ok (.iload_n 3, 1) := by decide +kernel
theorem dX5_lookThrough_19 : decode cX5_lookThrough 19 = .ok (.aaload, 1) := by decide +kernel
theorem dX5_lookThrough_20 : decode cX5_lookThrough 20 = .ok (.astore 4, 2) := by decide +kernel
theorem dX5_lookThrough_22 : decode cX5_lookThrough 22 = .ok (.aload_n 0, 1) := by decide +kernel
theorem dX5_lookThrough_23 : decode cX5_lookThrough 23 = .ok (.aload 4, 2) := by decide +kernel
theorem dX5_lookThrough_25 : decode cX5_lookThrough 25 = .ok (.iload_n 2, 1) := by decide +kernel
theorem dX5_lookThrough_26 : decode cX5_lookThrough 26 = .ok (.iconst 1, 1) := by decide +kernel
theorem dX5_lookThrough_27 : decode cX5_lookThrough 27 = .ok (.isub, 1) := by decide +kernel
theorem dX5_lookThrough_28 : decode cX5_lookThrough 28 = .ok (.invokevirtual 77, 3) := by decide +kernel
theorem dX5_lookThrough_31 : decode cX5_lookThrough 31 = .ok (.aload 4, 2) := by decide +kernel
theorem dX5_lookThrough_33 : decode cX5_lookThrough 33 = .ok (.getfield 91, 3) := by decide +kernel
theorem dX5_lookThrough_36 : decode cX5_lookThrough 36 = .ok (.ifCond .eq 9, 3) := by decide +kernel
theorem dX5_lookThrough_39 : decode cX5_lookThrough 39 = .ok (.aload_n 0, 1) := by decide +kernel
theorem dX5_lookThrough_40 : decode cX5_lookThrough 40 = .ok (.aload 4, 2) := by decide +kernel
theorem dX5_lookThrough_42 : decode cX5_lookThrough 42 = .ok (.invokevirtual 70, 3) := by decide +kernel
theorem dX5_lookThrough_45 : decode cX5_lookThrough 45 = .ok (.iinc 3 1, 3) := by decide +kernel
theorem dX5_lookThrough_48 : decode cX5_lookThrough 48 = .ok (.goto (-46), 3) := by decide +kernel
theorem dX5_lookThrough_51 : decode cX5_lookThrough 51 = .ok (.return_, 1) := by decide +kernel
theorem dX5_isWanted_0 : decode cX5_isWanted 0 = .ok (.aload_n 0, 1) := by decide +kernel
theorem dX5_isWanted_1 : decode cX5_isWanted 1 = .ok (.getfield 11, 3) := by decide +kernel
theorem dX5_isWanted_4 : decode cX5_isWanted 4 = .ok (.aload_n 1, 1) := by decide +kernel
theorem dX5_isWanted_5 : decode cX5_isWanted 5 = .ok (.invokevirtual 94, 3) := by decide +kernel
theorem dX5_isWanted_8 : decode cX5_isWanted 8 = .ok (.iand, 1) := by decide +kernel
theorem dX5_isWanted_9 : decode cX5_isWanted 9 = .ok (.ifCond .eq 7, 3) := by decide +kernel
theorem dX5_isWanted_12 : decode cX5_isWanted 12 = .ok (.iconst 1, 1) := by decide +kernel
theorem dX5_isWanted_13 : decode cX5_isWanted 13 = .ok (.goto 4, 3) := by decide +kernel
theorem dX5_isWanted_16 : decode cX5_isWanted 16 = .ok (.iconst 0, 1) := by decide +kernel
theorem dX5_isWanted_17 : decode cX5_isWanted 17 = .ok (.ireturn, 1) := by decide +kernel
theorem dX5_add_0 : decode cX5_add 0 = .ok (.aload_n 0, 1) := by decide +kernel
theorem dX5_add_1 : decode cX5_add 1 = .ok (.dup, 1) := by decide +kernel
theorem dX5_add_2 : decode cX5_add 2 = .ok (.getfield 11, 3) := by decide +kernel
theorem dX5_add_5 : decode cX5_add 5 = .ok (.aload_n 1, 1) := by decide +kernel
theorem dX5_add_6 : decode cX5_add 6 = .ok (.invokevirtual 94, 3) := by decide +kernel
theorem dX5_add_9 : decode cX5_add 9 = .ok (.ior, 1) := by decide +kernel
theorem dX5_add_10 : decode cX5_add 10 = .ok (.putfield 11, 3) := by decide +kernel
theorem dX5_add_13 : decode cX5_add 13 = .ok (.aload_n 0, 1) := by decide +kernel
theorem dX5_add_14 : decode cX5_add 14 = .ok (.aload_n 1, 1) := by decide +kernel
theorem dX5_add_15 : decode cX5_add 15 = .ok (.getfield 37, 3) := by decide +kernel
theorem dX5_add_18 : decode cX5_add 18 = .ok (.iconst 0, 1) := by decide +kernel
theorem dX5_add_19 : decode cX5_add 19 = .ok (.aaload, 1) := by decide +kernel
theorem dX5_add_20 : decode cX5_add 20 = .ok (.invokevirtual 38, 3) := by decide +kernel
theorem dX5_add_23 : decode cX5_add 23 = .ok (.return_, 1) := by decide +kernel
theorem dX5_list_0 : decode cX5_list 0 = .ok (.lconst 1, 1) := by decide +kernel
theorem dX5_list_1 : decode cX5_list 1 = .ok (.aload_n 1, 1) := by decide +kernel
theorem dX5_list_2 : decode cX5_list 2 = .ok (.getfield 98, 3) := by decide +kernel
theorem dX5_list_5 : decode cX5_list 5 = .ok (.lshl, 1) := by decide +kernel
theorem dX5_list_6 : decode cX5_list 6 = .ok (.lstore_n 2, 1) := by decide +kernel
theorem dX5_list_7 : decode cX5_list 7 = .ok (.aload_n 0, 1) := by decide +kernel
theorem dX5_list_8 : decode cX5_list 8 = .ok (.getfield 17, 3) := by decide +kernel
theorem dX5_list_11 : decode cX5_list 11 = .ok (.lload_n 2, 1) := by decide +kernel
theorem dX5_list_12 : decode cX5_list 12 = .ok (.land, 1) := by decide +kernel
theorem dX5_list_13 : decode cX5_list 13 = .ok (.lconst 0, 1) := by decide +kernel
theorem dX5_list_14 : decode cX5_list 14 = .ok (.lcmp, 1) := by decide +kernel
theorem dX5_list_15 : decode cX5_list 15 = .ok (.ifCond .ne 42, 3) := by decide +kernel
theorem dX5_list_18 : decode cX5_list 18 = .ok (.aload_n 0, 1) := by decide +kernel
theorem dX5_list_19 : decode cX5_list 19 = .ok (.getfield 27, 3) := by decide +kernel
theorem dX5_list_22 : decode cX5_list 22 = .ok (.bipush 48, 2) := by decide +kernel
theorem dX5_list_24 : decode cX5_list 24 = .ok (.if_icmp .ge 33, 3) := by decide +kernel
theorem dX5_list_27 : decode cX5_list 27 = .ok (.aload_n 0, 1) := by decide +kernel
theorem dX5_list_28 : decode cX5_list 28 = .ok (.dup, 1) := by decide +kernel
theorem dX5_list_29 : decode cX5_list 29 = .ok (.getfield 17, 3) := by decide +kernel
theorem dX5_list_32 : decode cX5_list 32 = .ok (.lload_n 2, 1) := by decide +kernel
theorem dX5_list_33 : decode cX5_list 33 = .ok (.lor, 1) := by decide +kernel
theorem dX5_list_34 : decode cX5_list 34 = .ok (.putfield 17, 3) := by decide +kernel
theorem dX5_list_37 : decode cX5_list 37 = .ok (.aload_n 0, 1) := by decide +kernel
theorem dX5_list_38 : decode cX5_list 38 = .ok (.getfield 23, 3) := by decide +kernel
theorem dX5_list_41 : decode cX5_list 41 = .ok (.aload_n 0, 1) := by decide +kernel
theorem dX5_list_42 : decode cX5_list 42 = .ok (.getfield 27, 3) := by decide +kernel
theorem dX5_list_45 : decode cX5_list 45 = .ok (.aload_n 1, 1) := by decide +kernel
theorem dX5_list_46 : decode cX5_list 46 = .ok (.aastore, 1) := by decide +kernel
theorem dX5_list_47 : decode cX5_list 47 = .ok (.aload_n 0, 1) := by decide +kernel
theorem dX5_list_48 : decode cX5_list 48 = .ok (.dup, 1) := by decide +kernel
theorem dX5_list_49 : decode cX5_list 49 = .ok (.getfield 27, 3) := by decide +kernel
theorem dX5_list_52 : decode cX5_list 52 = .ok (.iconst 1, 1) := by decide +kernel
theorem dX5_list_53 : decode cX5_list 53 = .ok (.iadd, 1) := by decide +kernel
theorem dX5_list_54 : decode cX5_list 54 = .ok (.putfield 27, 3) := by decide +kernel
theorem dX5_list_57 : decode cX5_list 57 = .ok (.return_, 1) := by decide +kernel
