theorem d_T_init_0 : decode b_T_init 0 = .ok (.aload_n 0, 1) := by decide +kernel
theorem d_T_init_1 : decode b_T_init 1 = .ok (.invokespecial 1, 3) := by decide +kernel
theorem d_T_init_4 : decode b_T_init 4 = .ok (.aload_n 0, 1) := by decide +kernel
theorem d_T_init_5 : decode b_T_init 5 = .ok (.new 7, 3) := by decide +kernel
theorem d_T_init_8 : decode b_T_init 8 = .ok (.dup, 1) := by decide +kernel
theorem d_T_init_9 : decode b_T_init 9 = .ok (.invokespecial 9, 3) := by decide +kernel
theorem d_T_init_12 : decode b_T_init 12 = .ok (.putfield 10, 3) := by decide +kernel
theorem d_T_init_15 : decode b_T_init 15 = .ok (.aload_n 0, 1) := by decide +kernel
theorem d_T_init_16 : decode b_T_init 16 = .ok (.new 16, 3) := by decide +kernel
theorem d_T_init_19 : decode b_T_init 19 = .ok (.dup, 1) := by decide +kernel
theorem d_T_init_20 : decode b_T_init 20 = .ok (.invokespecial 18, 3) := by decide +kernel
theorem d_T_init_23 : decode b_T_init 23 = .ok (.putfield 19, 3) := by decide +kernel
theorem d_T_init_26 : decode b_T_init 26 = .ok (.aload_n 0, 1) := by decide +kernel
theorem d_T_init_27 : decode b_T_init 27 = .ok (.new 23, 3) := by decide +kernel
theorem d_T_init_30 : decode b_T_init 30 = .ok (.dup, 1) := by decide +kernel
theorem d_T_init_31 : decode b_T_init 31 = .ok (.invokespecial 25, 3) := by decide +kernel
theorem d_T_init_34 : decode b_T_init 34 = .ok (.putfield 26, 3) := by decide +kernel
theorem d_T_init_37 : decode b_T_init 37 = .ok (.aload_n 0, 1) := by decide +kernel
theorem d_T_init_38 : decode b_T_init 38 = .ok (.new 23, 3) := by decide +kernel
theorem d_T_init_41 : decode b_T_init 41 = .ok (.dup, 1) := by decide +kernel
theorem d_T_init_42 : decode b_T_init 42 = .ok (.invokespecial 25, 3) := by decide +kernel
theorem d_T_init_45 : decode b_T_init 45 = .ok (.putfield 30, 3) := by decide +kernel
theorem d_T_init_48 : decode b_T_init 48 = .ok (.aload_n 0, 1) := by decide +kernel
theorem d_T_init_49 : decode b_T_init 49 = .ok (.bipush 25, 2) := by decide +kernel
theorem d_T_init_51 : decode b_T_init 51 = .ok (.anewarray 33, 3) := by decide +kernel
theorem d_T_init_54 : decode b_T_init 54 = .ok (.putfield 35, 3) := by decide +kernel
theorem d_T_init_57 : decode b_T_init 57 = .ok (.aload_n 0, 1) := by decide +kernel
theorem d_T_init_58 : decode b_T_init 58 = .ok (.iconst 5, 1) := by decide +kernel
theorem d_T_init_59 : decode b_T_init 59 = .ok (.newarray .int, 2) := by decide +kernel
theorem d_T_init_61 : decode b_T_init 61 = .ok (.dup, 1) := by decide +kernel
theorem d_T_init_62 : decode b_T_init 62 = .ok (.iconst 0, 1) := by decide +kernel
theorem d_T_init_63 : decode b_T_init 63 = .ok (.iconst (-1), 1) := by decide +kernel
theorem d_T_init_64 : decode b_T_init 64 = .ok (.iastore, 1) := by decide +kernel
theorem d_T_init_65 : decode b_T_init 65 = .ok (.dup, 1) := by decide +kernel
theorem d_T_init_66 : decode b_T_init 66 = .ok (.iconst 1, 1) := by decide +kernel
theorem d_T_init_67 : decode b_T_init 67 = .ok (.iconst (-1), 1) := by decide +kernel
theorem d_T_init_68 : decode b_T_init 68 = .ok (.iastore, 1) := by decide +kernel
theorem d_T_init_69 : decode b_T_init 69 = .ok (.dup, 1) := by decide +kernel
theorem d_T_init_70 : decode b_T_init 70 = .ok (.iconst 2, 1) := by decide +kernel
theorem d_T_init_71 : decode b_T_init 71 = .ok (.iconst (-1), 1) := by decide +kernel
theorem d_T_init_72 : decode b_T_init 72 = .ok (.iastore, 1) := by decide +kernel
theorem d_T_init_73 : decode b_T_init 73 = .ok (.dup, 1) := by decide +kernel
theorem d_T_init_74 : decode b_T_init 74 = .ok (.iconst 3, 1) := by decide +kernel
theorem d_T_init_75 : decode b_T_init 75 = .ok (.iconst (-1), 1) := by decide +kernel
theorem d_T_init_76 : decode b_T_init 76 = .ok (.iastore, 1) := by decide +kernel
theorem d_T_init_77 : decode b_T_init 77 = .ok (.dup, 1) := by decide +kernel
theorem d_T_init_78 : decode b_T_init 78 = .ok (.iconst 4, 1) := by decide +kernel
theorem d_T_init_79 : decode b_T_init 79 = .ok (.iconst (-1), 1) := by decide +kernel
theorem d_T_init_80 : decode b_T_init 80 = .ok (.iastore, 1) := by decide +kernel
theorem d_T_init_81 : decode b_T_init 81 = .ok (.putfield 39, 3) := by decide +kernel
theorem d_T_init_84 : decode b_T_init 84 = .ok (.aload_n 0, 1) := by decide +kernel
theorem d_T_init_85 : decode b_T_init 85 = .ok (.iconst 0, 1) := by decide +kernel
theorem d_T_init_86 : decode b_T_init 86 = .ok (.putfield 43, 3) := by decide +kernel
theorem d_T_init_89 : decode b_T_init 89 = .ok (.aload_n 0, 1) := by decide +kernel
theorem d_T_init_90 : decode b_T_init 90 = .ok (.iconst 0, 1) := by decide +kernel
theorem d_T_init_91 : decode b_T_init 91 = .ok (.putfield 47, 3) := by decide +kernel
theorem d_T_init_94 : decode b_T_init 94 = .ok (.return_, 1) := by decide +kernel
theorem d_T_visit_0 : decode b_T_visit 0 = .ok (.aload_n 0, 1) := by decide +kernel
theorem d_T_visit_1 : decode b_T_visit 1 = .ok (.getfield 10, 3) := by decide +kernel
theorem d_T_visit_4 : decode b_T_visit 4 = .ok (.iload_n 1, 1) := by decide +kernel
theorem d_T_visit_5 : decode b_T_visit 5 = .ok (.invokevirtual 50, 3) := by decide +kernel
theorem d_T_visit_8 : decode b_T_visit 8 = .ok (.astore 5, 2) := by decide +kernel
theorem d_T_visit_10 : decode b_T_visit 10 = .ok (.aload 5, 2) := by decide +kernel
theorem d_T_visit_12 : decode b_T_visit 12 = .ok (.ifnull 19, 3) := by decide +kernel
theorem d_T_visit_15 : decode b_T_visit 15 = .ok (.aload_n 0, 1) := by decide +kernel
theorem d_T_visit_16 : decode b_T_visit 16 = .ok (.getfield 43, 3) := by decide +kernel
theorem d_T_visit_19 : decode b_T_visit 19 = .ok (.ifCond .gt 12, 3) := by decide +kernel
theorem d_T_visit_22 : decode b_T_visit 22 = .ok (.aload 5, 2) := by decide +kernel
theorem d_T_visit_24 : decode b_T_visit 24 = .ok (.getfield 54, 3) := by decide +kernel
theorem d_T_visit_27 : decode b_T_visit 27 = .ok (.iconst 3, 1) := by decide +kernel
theorem d_T_visit_28 : decode b_T_visit 28 = .ok (.if_icmp .ne 5, 3) := by decide +kernel
theorem d_T_visit_31 : decode b_T_visit 31 = .ok (.iconst (-1), 1) := by decide +kernel
theorem d_T_visit_32 : decode b_T_visit 32 = .ok (.ireturn, 1) := by decide +kernel
theorem d_T_visit_33 : decode b_T_visit 33 = .ok (.iload_n 2, 1) := by decide +kernel
theorem d_T_visit_34 : decode b_T_visit 34 = .ok (.iconst 1, 1) := by decide +kernel
theorem d_T_visit_35 : decode b_T_visit 35 = .ok (.bipush 15, 2) := by decide +kernel
theorem d_T_visit_37 : decode b_T_visit 37 = .ok (.invokestatic 59, 3) := by decide +kernel
theorem d_T_visit_40 : decode b_T_visit 40 = .ok (.ifCond .eq 24, 3) := by decide +kernel
theorem d_T_visit_43 : decode b_T_visit 43 = .ok (.iload_n 3, 1) := by decide +kernel
theorem d_T_visit_44 : decode b_T_visit 44 = .ok (.iconst 1, 1) := by decide +kernel
theorem d_T_visit_45 : decode b_T_visit 45 = .ok (.bipush 100, 2) := by decide +kernel
theorem d_T_visit_47 : decode b_T_visit 47 = .ok (.invokestatic 59, 3) := by decide +kernel
theorem d_T_visit_50 : decode b_T_visit 50 = .ok (.ifCond .eq 14, 3) := by decide +kernel
theorem d_T_visit_53 : decode b_T_visit 53 = .ok (.iload 4, 2) := by decide +kernel
theorem d_T_visit_55 : decode b_T_visit 55 = .ok (.iconst 0, 1) := by decide +kernel
theorem d_T_visit_56 : decode b_T_visit 56 = .ok (.bipush 100, 2) := by decide +kernel
theorem d_T_visit_58 : decode b_T_visit 58 = .ok (.invokestatic 59, 3) := by decide +kernel
theorem d_T_visit_61 : decode b_T_visit 61 = .ok (.ifCond .ne 5, 3) := by decide +kernel
theorem d_T_visit_64 : decode b_T_visit 64 = .ok (.iconst (-1), 1) := by decide +kernel
theorem d_T_visit_65 : decode b_T_visit 65 = .ok (.ireturn, 1) := by decide +kernel
theorem d_T_visit_66 : decode b_T_visit 66 = .ok (.aload 5, 2) := by decide +kernel
theorem d_T_visit_68 : decode b_T_visit 68 = .ok (.iload_n 2, 1) := by decide +kernel
theorem d_T_visit_69 : decode b_T_visit 69 = .ok (.iload_n 3, 1) := by decide +kernel
theorem d_T_visit_70 : decode b_T_visit 70 = .ok (.iload 4, 2) := by decide +kernel
theorem d_T_visit_72 : decode b_T_visit 72 = .ok (.invokevirtual 63, 3) := by decide +kernel
theorem d_T_visit_75 : decode b_T_visit 75 = .ok (.aload 5, 2) := by decide +kernel
theorem d_T_visit_77 : decode b_T_visit 77 = .ok (.getfield 54, 3) := by decide +kernel
theorem d_T_visit_80 : decode b_T_visit 80 = .ok (.ireturn, 1) := by decide +kernel
theorem d_T_load_0 : decode b_T_load 0 = .ok (.aload_n 0, 1) := by decide +kernel
theorem d_T_load_1 : decode b_T_load 1 = .ok (.getfield 10, 3) := by decide +kernel
theorem d_T_load_4 : decode b_T_load 4 = .ok (.iload_n 1, 1) := by decide +kernel
theorem d_T_load_5 : decode b_T_load 5 = .ok (.invokevirtual 50, 3) := by decide +kernel
theorem d_T_load_8 : decode b_T_load 8 = .ok (.astore_n 2, 1) := by decide +kernel
theorem d_T_load_9 : decode b_T_load 9 = .ok (.aload_n 2, 1) := by decide +kernel
theorem d_T_load_10 : decode b_T_load 10 = .ok (.ifnull 12, 3) := by decide +kernel
theorem d_T_load_13 : decode b_T_load 13 = .ok (.aload_n 0, 1) := by decide +kernel
theorem d_T_load_14 : decode b_T_load 14 = .ok (.getfield 43, 3) := by decide +kernel
theorem d_T_load_17 : decode b_T_load 17 = .ok (.bipush 25, 2) := by decide +kernel
theorem d_T_load_19 : decode b_T_load 19 = .ok (.if_icmp .lt 5, 3) := by decide +kernel
theorem d_T_load_22 : decode b_T_load 22 = .ok (.iconst (-1), 1) := by decide +kernel
theorem d_T_load_23 : decode b_T_load 23 = .ok (.ireturn, 1) := by decide +kernel
theorem d_T_load_24 : decode b_T_load 24 = .ok (.aload_n 0, 1) := by decide +kernel
theorem d_T_load_25 : decode b_T_load 25 = .ok (.getfield 35, 3) := by decide +kernel
theorem d_T_load_28 : decode b_T_load 28 = .ok (.aload_n 0, 1) := by decide +kernel
theorem d_T_load_29 : decode b_T_load 29 = .ok (.getfield 43, 3) := by decide +kernel
theorem d_T_load_32 : decode b_T_load 32 = .ok (.new 33, 3) := by decide +kernel
theorem d_T_load_35 : decode b_T_load 35 = .ok (.dup, 1) := by decide +kernel
theorem d_T_load_36 : decode b_T_load 36 = .ok (.iload_n 1, 1) := by decide +kernel
theorem d_T_load_37 : decode b_T_load 37 = .ok (.aload_n 2, 1) := by decide +kernel
theorem d_T_load_38 : decode b_T_load 38 = .ok (.getfield 54, 3) := by decide +kernel
theorem d_T_load_41 : decode b_T_load 41 = .ok (.ifCond .ne 7, 3) := by decide +kernel
theorem d_T_load_44 : decode b_T_load 44 = .ok (.iconst 1, 1) := by decide +kernel
theorem d_T_load_45 : decode b_T_load 45 = .ok (.goto 4, 3) := by decide +kernel
theorem d_T_load_48 : decode b_T_load 48 = .ok (.iconst 0, 1) := by decide +kernel
theorem d_T_load_49 : decode b_T_load 49 = .ok (.invokespecial 67, 3) := by decide +kernel
theorem d_T_load_52 : decode b_T_load 52 = .ok (.aastore, 1) := by decide +kernel
theorem d_T_load_53 : decode b_T_load 53 = .ok (.aload_n 0, 1) := by decide +kernel
theorem d_T_load_54 : decode b_T_load 54 = .ok (.dup, 1) := by decide +kernel
theorem d_T_load_55 : decode b_T_load 55 = .ok (.getfield 43, 3) := by decide +kernel
theorem d_T_load_58 : decode b_T_load 58 = .ok (.iconst 1, 1) := by decide +kernel
theorem d_T_load_59 : decode b_T_load 59 = .ok (.iadd, 1) := by decide +kernel
theorem d_T_load_60 : decode b_T_load 60 = .ok (.putfield 43, 3) := by decide +kernel
theorem d_T_load_63 : decode b_T_load 63 = .ok (.aload_n 0, 1) := by decide +kernel
theorem d_T_load_64 : decode b_T_load 64 = .ok (.getfield 43, 3) := by decide +kernel
theorem d_T_load_67 : decode b_T_load 67 = .ok (.iconst 1, 1) := by decide +kernel
theorem d_T_load_68 : decode b_T_load 68 = .ok (.isub, 1) := by decide +kernel
theorem d_T_load_69 : decode b_T_load 69 = .ok (.ireturn, 1) := by decide +kernel
theorem d_T_may_0 : decode b_T_may 0 = .ok (.aload_n 0, 1) := by decide +kernel
theorem d_T_may_1 : decode b_T_may 1 = .ok (.iload_n 1, 1) := by decide +kernel
theorem d_T_may_2 : decode b_T_may 2 = .ok (.invokevirtual 70, 3) := by decide +kernel
theorem d_T_may_5 : decode b_T_may 5 = .ok (.astore_n 3, 1) := by decide +kernel
theorem d_T_may_6 : decode b_T_may 6 = .ok (.aload_n 3, 1) := by decide +kernel
theorem d_T_may_7 : decode b_T_may 7 = .ok (.ifnull 12, 3) := by decide +kernel
theorem d_T_may_10 : decode b_T_may 10 = .ok (.iload_n 2, 1) := by decide +kernel
theorem d_T_may_11 : decode b_T_may 11 = .ok (.iconst 0, 1) := by decide +kernel
theorem d_T_may_12 : decode b_T_may 12 = .ok (.iconst 5, 1) := by decide +kernel
theorem d_T_may_13 : decode b_T_may 13 = .ok (.invokestatic 59, 3) := by decide +kernel
theorem d_T_may_16 : decode b_T_may 16 = .ok (.ifCond .ne 5, 3) := by decide +kernel
theorem d_T_may_19 : decode b_T_may 19 = .ok (.iconst (-1), 1) := by decide +kernel
theorem d_T_may_20 : decode b_T_may 20 = .ok (.ireturn, 1) := by decide +kernel
theorem d_T_may_21 : decode b_T_may 21 = .ok (.aload_n 3, 1) := by decide +kernel
theorem d_T_may_22 : decode b_T_may 22 = .ok (.getfield 74, 3) := by decide +kernel
theorem d_T_may_25 : decode b_T_may 25 = .ok (.ifCond .ne 10, 3) := by decide +kernel
theorem d_T_may_28 : decode b_T_may 28 = .ok (.aload_n 3, 1) := by decide +kernel
theorem d_T_may_29 : decode b_T_may 29 = .ok (.getfield 78, 3) := by decide +kernel
theorem d_T_may_32 : decode b_T_may 32 = .ok (.ifCond .le 5, 3) := by decide +kernel
theorem d_T_may_35 : decode b_T_may 35 = .ok (.iconst 1, 1) := by decide +kernel
theorem d_T_may_36 : decode b_T_may 36 = .ok (.ireturn, 1) := by decide +kernel
theorem d_T_may_37 : decode b_T_may 37 = .ok (.aload_n 0, 1) := by decide +kernel
theorem d_T_may_38 : decode b_T_may 38 = .ok (.getfield 10, 3) := by decide +kernel
theorem d_T_may_41 : decode b_T_may 41 = .ok (.aload_n 3, 1) := by decide +kernel
theorem d_T_may_42 : decode b_T_may 42 = .ok (.getfield 81, 3) := by decide +kernel
theorem d_T_may_45 : decode b_T_may 45 = .ok (.aload_n 3, 1) := by decide +kernel
theorem d_T_may_46 : decode b_T_may 46 = .ok (.getfield 84, 3) := by decide +kernel
theorem d_T_may_49 : decode b_T_may 49 = .ok (.aload_n 3, 1) := by decide +kernel
theorem d_T_may_50 : decode b_T_may 50 = .ok (.getfield 87, 3) := by decide +kernel
theorem d_T_may_53 : decode b_T_may 53 = .ok (.iload_n 2, 1) := by decide +kernel
theorem d_T_may_54 : decode b_T_may 54 = .ok (.invokevirtual 90, 3) := by decide +kernel
theorem d_T_may_57 : decode b_T_may 57 = .ok (.ifCond .ne 5, 3) := by decide +kernel
theorem d_T_may_60 : decode b_T_may 60 = .ok (.iconst 2, 1) := by decide +kernel
theorem d_T_may_61 : decode b_T_may 61 = .ok (.ireturn, 1) := by decide +kernel
theorem d_T_may_62 : decode b_T_may 62 = .ok (.aload_n 0, 1) := by decide +kernel
theorem d_T_may_63 : decode b_T_may 63 = .ok (.aload_n 3, 1) := by decide +kernel
theorem d_T_may_64 : decode b_T_may 64 = .ok (.iload_n 2, 1) := by decide +kernel
theorem d_T_may_65 : decode b_T_may 65 = .ok (.invokevirtual 94, 3) := by decide +kernel
theorem d_T_may_68 : decode b_T_may 68 = .ok (.ifCond .eq 5, 3) := by decide +kernel
theorem d_T_may_71 : decode b_T_may 71 = .ok (.iconst 3, 1) := by decide +kernel
theorem d_T_may_72 : decode b_T_may 72 = .ok (.ireturn, 1) := by decide +kernel
theorem d_T_may_73 : decode b_T_may 73 = .ok (.aload_n 0, 1) := by decide +kernel
theorem d_T_may_74 : decode b_T_may 74 = .ok (.getfield 19, 3) := by decide +kernel
theorem d_T_may_77 : decode b_T_may 77 = .ok (.aload_n 0, 1) := by decide +kernel
theorem d_T_may_78 : decode b_T_may 78 = .ok (.getfield 10, 3) := by decide +kernel
theorem d_T_may_81 : decode b_T_may 81 = .ok (.aload_n 0, 1) := by decide +kernel
theorem d_T_may_82 : decode b_T_may 82 = .ok (.aload_n 3, 1) := by decide +kernel
theorem d_T_may_83 : decode b_T_may 83 = .ok (.iload_n 2, 1) := by decide +kernel
theorem d_T_may_84 : decode b_T_may 84 = .ok (.invokevirtual 98, 3) := by decide +kernel
theorem d_T_may_87 : decode b_T_may 87 = .ok (.iconst 0, 1) := by decide +kernel
theorem d_T_may_88 : decode b_T_may 88 = .ok (.invokevirtual 102, 3) := by decide +kernel
theorem d_T_may_91 : decode b_T_may 91 = .ok (.ifCond .ne 5, 3) := by decide +kernel
theorem d_T_may_94 : decode b_T_may 94 = .ok (.iconst 4, 1) := by decide +kernel
theorem d_T_may_95 : decode b_T_may 95 = .ok (.ireturn, 1) := by decide +kernel
theorem d_T_may_96 : decode b_T_may 96 = .ok (.aload_n 0, 1) := by decide +kernel
theorem d_T_may_97 : decode b_T_may 97 = .ok (.aload_n 3, 1) := by decide +kernel
theorem d_T_may_98 : decode b_T_may 98 = .ok (.getfield 87, 3) := by decide +kernel
theorem d_T_may_101 : decode b_T_may 101 = .ok (.iload_n 2, 1) := by decide +kernel
theorem d_T_may_102 : decode b_T_may 102 = .ok (.invokevirtual 106, 3) := by decide +kernel
theorem d_T_may_105 : decode b_T_may 105 = .ok (.getfield 110, 3) := by decide +kernel
theorem d_T_may_108 : decode b_T_may 108 = .ok (.ifCond .eq 7, 3) := by decide +kernel
theorem d_T_may_111 : decode b_T_may 111 = .ok (.iconst 5, 1) := by decide +kernel
theorem d_T_may_112 : decode b_T_may 112 = .ok (.goto 4, 3) := by decide +kernel
theorem d_T_may_115 : decode b_T_may 115 = .ok (.iconst 0, 1) := by decide +kernel
theorem d_T_may_116 : decode b_T_may 116 = .ok (.ireturn, 1) := by decide +kernel
theorem d_T_move_0 : decode b_T_move 0 = .ok (.aload_n 0, 1) := by decide +kernel
theorem d_T_move_1 : decode b_T_move 1 = .ok (.iload_n 1, 1) := by decide +kernel
theorem d_T_move_2 : decode b_T_move 2 = .ok (.iload_n 2, 1) := by decide +kernel
theorem d_T_move_3 : decode b_T_move 3 = .ok (.invokevirtual 113, 3) := by decide +kernel
theorem d_T_move_6 : decode b_T_move 6 = .ok (.istore_n 3, 1) := by decide +kernel
theorem d_T_move_7 : decode b_T_move 7 = .ok (.iload_n 3, 1) := by decide +kernel
theorem d_T_move_8 : decode b_T_move 8 = .ok (.ifCond .ne 9, 3) := by decide +kernel
theorem d_T_move_11 : decode b_T_move 11 = .ok (.aload_n 0, 1) := by decide +kernel
theorem d_T_move_12 : decode b_T_move 12 = .ok (.iload_n 1, 1) := by decide +kernel
theorem d_T_move_13 : decode b_T_move 13 = .ok (.iload_n 2, 1) := by decide +kernel
theorem d_T_move_14 : decode b_T_move 14 = .ok (.invokevirtual 117, 3) := by decide +kernel
theorem d_T_move_17 : decode b_T_move 17 = .ok (.iload_n 3, 1) := by decide +kernel
theorem d_T_move_18 : decode b_T_move 18 = .ok (.ireturn, 1) := by decide +kernel
theorem d_T_next_0 : decode b_T_next 0 = .ok (.iconst (-1), 1) := by decide +kernel
theorem d_T_next_1 : decode b_T_next 1 = .ok (.istore_n 1, 1) := by decide +kernel
theorem d_T_next_2 : decode b_T_next 2 = .ok (.sipush 1002, 3) := by decide +kernel
theorem d_T_next_5 : decode b_T_next 5 = .ok (.istore_n 2, 1) := by decide +kernel
theorem d_T_next_6 : decode b_T_next 6 = .ok (.iconst 0, 1) := by decide +kernel
theorem d_T_next_7 : decode b_T_next 7 = .ok (.istore_n 3, 1) := by decide +kernel
theorem d_T_next_8 : decode b_T_next 8 = .ok (.iload_n 3, 1) := by decide +kernel
theorem d_T_next_9 : decode b_T_next 9 = .ok (.aload_n 0, 1) := by decide +kernel
theorem d_T_next_10 : decode b_T_next 10 = .ok (.getfield 43, 3) := by decide +kernel
theorem d_T_next_13 : decode b_T_next 13 = .ok (.if_icmp .ge 59, 3) := by decide +kernel
theorem d_T_next_16 : decode b_T_next 16 = .ok (.aload_n 0, 1) := by decide +kernel
theorem d_T_next_17 : decode b_T_next 17 = .ok (.iload_n 3, 1) := by decide +kernel
theorem d_T_next_18 : decode b_T_next 18 = .ok (.invokevirtual 121, 3) := by decide +kernel
theorem d_T_next_21 : decode b_T_next 21 = .ok (.istore 4, 2) := by decide +kernel
theorem d_T_next_23 : decode b_T_next 23 = .ok (.iconst 0, 1) := by decide +kernel
theorem d_T_next_24 : decode b_T_next 24 = .ok (.istore 5, 2) := by decide +kernel
theorem d_T_next_26 : decode b_T_next 26 = .ok (.iload 5, 2) := by decide +kernel
theorem d_T_next_28 : decode b_T_next 28 = .ok (.bipush 6, 2) := by decide +kernel
theorem d_T_next_30 : decode b_T_next 30 = .ok (.if_icmp .ge 36, 3) := by decide +kernel
theorem d_T_next_33 : decode b_T_next 33 = .ok (.iload 4, 2) := by decide +kernel
theorem d_T_next_35 : decode b_T_next 35 = .ok (.iload_n 2, 1) := by decide +kernel
theorem d_T_next_36 : decode b_T_next 36 = .ok (.if_icmp .ge 30, 3) := by decide +kernel
theorem d_T_next_39 : decode b_T_next 39 = .ok (.aload_n 0, 1) := by decide +kernel
theorem d_T_next_40 : decode b_T_next 40 = .ok (.iload_n 3, 1) := by decide +kernel
theorem d_T_next_41 : decode b_T_next 41 = .ok (.iload 5, 2) := by decide +kernel
theorem d_T_next_43 : decode b_T_next 43 = .ok (.invokevirtual 113, 3) := by decide +kernel
theorem d_T_next_46 : decode b_T_next 46 = .ok (.ifCond .ne 14, 3) := by decide +kernel
theorem d_T_next_49 : decode b_T_next 49 = .ok (.bipush 8, 2) := by decide +kernel
theorem d_T_next_51 : decode b_T_next 51 = .ok (.iload_n 3, 1) := by decide +kernel
theorem d_T_next_52 : decode b_T_next 52 = .ok (.imul, 1) := by decide +kernel
theorem d_T_next_53 : decode b_T_next 53 = .ok (.iload 5, 2) := by decide +kernel
theorem d_T_next_55 : decode b_T_next 55 = .ok (.iadd, 1) := by decide +kernel
theorem d_T_next_56 : decode b_T_next 56 = .ok (.istore_n 1, 1) := by decide +kernel
theorem d_T_next_57 : decode b_T_next 57 = .ok (.iload 4, 2) := by decide +kernel
theorem d_T_next_59 : decode b_T_next 59 = .ok (.istore_n 2, 1) := by decide +kernel
theorem d_T_next_60 : decode b_T_next 60 = .ok (.iinc 5 1, 3) := by decide +kernel
theorem d_T_next_63 : decode b_T_next 63 = .ok (.goto (-37), 3) := by decide +kernel
theorem d_T_next_66 : decode b_T_next 66 = .ok (.iinc 3 1, 3) := by decide +kernel
theorem d_T_next_69 : decode b_T_next 69 = .ok (.goto (-61), 3) := by decide +kernel
theorem d_T_next_72 : decode b_T_next 72 = .ok (.iload_n 1, 1) := by decide +kernel
theorem d_T_next_73 : decode b_T_next 73 = .ok (.ireturn, 1) := by decide +kernel
theorem d_T_go_0 : decode b_T_go 0 = .ok (.aload_n 0, 1) := by decide +kernel
theorem d_T_go_1 : decode b_T_go 1 = .ok (.invokevirtual 125, 3) := by decide +kernel
theorem d_T_go_4 : decode b_T_go 4 = .ok (.istore_n 1, 1) := by decide +kernel
theorem d_T_go_5 : decode b_T_go 5 = .ok (.iload_n 1, 1) := by decide +kernel
theorem d_T_go_6 : decode b_T_go 6 = .ok (.iconst (-1), 1) := by decide +kernel
theorem d_T_go_7 : decode b_T_go 7 = .ok (.if_icmp .eq 15, 3) := by decide +kernel
theorem d_T_go_10 : decode b_T_go 10 = .ok (.aload_n 0, 1) := by decide +kernel
theorem d_T_go_11 : decode b_T_go 11 = .ok (.iload_n 1, 1) := by decide +kernel
theorem d_T_go_12 : decode b_T_go 12 = .ok (.bipush 8, 2) := by decide +kernel
theorem d_T_go_14 : decode b_T_go 14 = .ok (.idiv, 1) := by decide +kernel
theorem d_T_go_15 : decode b_T_go 15 = .ok (.iload_n 1, 1) := by decide +kernel
theorem d_T_go_16 : decode b_T_go 16 = .ok (.bipush 8, 2) := by decide +kernel
theorem d_T_go_18 : decode b_T_go 18 = .ok (.irem, 1) := by decide +kernel
theorem d_T_go_19 : decode b_T_go 19 = .ok (.invokevirtual 117, 3) := by decide +kernel
theorem d_T_go_22 : decode b_T_go 22 = .ok (.iload_n 1, 1) := by decide +kernel
theorem d_T_go_23 : decode b_T_go 23 = .ok (.ireturn, 1) := by decide +kernel
theorem d_T_tick_0 : decode b_T_tick 0 = .ok (.iload_n 1, 1) := by decide +kernel
theorem d_T_tick_1 : decode b_T_tick 1 = .ok (.iconst 0, 1) := by decide +kernel
theorem d_T_tick_2 : decode b_T_tick 2 = .ok (.sipush 200, 3) := by decide +kernel
theorem d_T_tick_5 : decode b_T_tick 5 = .ok (.invokestatic 59, 3) := by decide +kernel
theorem d_T_tick_8 : decode b_T_tick 8 = .ok (.ifCond .ne 5, 3) := by decide +kernel
theorem d_T_tick_11 : decode b_T_tick 11 = .ok (.iconst (-1), 1) := by decide +kernel
theorem d_T_tick_12 : decode b_T_tick 12 = .ok (.ireturn, 1) := by decide +kernel
theorem d_T_tick_13 : decode b_T_tick 13 = .ok (.iconst 0, 1) := by decide +kernel
theorem d_T_tick_14 : decode b_T_tick 14 = .ok (.istore_n 2, 1) := by decide +kernel
theorem d_T_tick_15 : decode b_T_tick 15 = .ok (.iconst 0, 1) := by decide +kernel
theorem d_T_tick_16 : decode b_T_tick 16 = .ok (.istore_n 3, 1) := by decide +kernel
theorem d_T_tick_17 : decode b_T_tick 17 = .ok (.iload_n 3, 1) := by decide +kernel
theorem d_T_tick_18 : decode b_T_tick 18 = .ok (.iconst 4, 1) := by decide +kernel
theorem d_T_tick_19 : decode b_T_tick 19 = .ok (.if_icmp .ge 69, 3) := by decide +kernel
theorem d_T_tick_22 : decode b_T_tick 22 = .ok (.aload_n 0, 1) := by decide +kernel
theorem d_T_tick_23 : decode b_T_tick 23 = .ok (.aload_n 0, 1) := by decide +kernel
theorem d_T_tick_24 : decode b_T_tick 24 = .ok (.getfield 39, 3) := by decide +kernel
theorem d_T_tick_27 : decode b_T_tick 27 = .ok (.iload_n 3, 1) := by decide +kernel
theorem d_T_tick_28 : decode b_T_tick 28 = .ok (.iaload, 1) := by decide +kernel
theorem d_T_tick_29 : decode b_T_tick 29 = .ok (.invokevirtual 70, 3) := by decide +kernel
theorem d_T_tick_32 : decode b_T_tick 32 = .ok (.astore 4, 2) := by decide +kernel
theorem d_T_tick_34 : decode b_T_tick 34 = .ok (.aload 4, 2) := by decide +kernel
theorem d_T_tick_36 : decode b_T_tick 36 = .ok (.ifnull 46, 3) := by decide +kernel
theorem d_T_tick_39 : decode b_T_tick 39 = .ok (.aload_n 0, 1) := by decide +kernel
theorem d_T_tick_40 : decode b_T_tick 40 = .ok (.getfield 10, 3) := by decide +kernel
theorem d_T_tick_43 : decode b_T_tick 43 = .ok (.iload_n 3, 1) := by decide +kernel
theorem d_T_tick_44 : decode b_T_tick 44 = .ok (.invokevirtual 129, 3) := by decide +kernel
theorem d_T_tick_47 : decode b_T_tick 47 = .ok (.ifCond .ne 35, 3) := by decide +kernel
theorem d_T_tick_50 : decode b_T_tick 50 = .ok (.aload 4, 2) := by decide +kernel
theorem d_T_tick_52 : decode b_T_tick 52 = .ok (.iload_n 1, 1) := by decide +kernel
theorem d_T_tick_53 : decode b_T_tick 53 = .ok (.aload_n 0, 1) := by decide +kernel
theorem d_T_tick_54 : decode b_T_tick 54 = .ok (.getfield 47, 3) := by decide +kernel
theorem d_T_tick_57 : decode b_T_tick 57 = .ok (.invokevirtual 133, 3) := by decide +kernel
theorem d_T_tick_60 : decode b_T_tick 60 = .ok (.iload_n 2, 1) := by decide +kernel
theorem d_T_tick_61 : decode b_T_tick 61 = .ok (.aload 4, 2) := by decide +kernel
theorem d_T_tick_63 : decode b_T_tick 63 = .ok (.aload_n 0, 1) := by decide +kernel
theorem d_T_tick_64 : decode b_T_tick 64 = .ok (.aload 4, 2) := by decide +kernel
theorem d_T_tick_66 : decode b_T_tick 66 = .ok (.invokevirtual 136, 3) := by decide +kernel
theorem d_T_tick_69 : decode b_T_tick 69 = .ok (.invokevirtual 140, 3) := by decide +kernel
theorem d_T_tick_72 : decode b_T_tick 72 = .ok (.ifCond .eq 7, 3) := by decide +kernel
theorem d_T_tick_75 : decode b_T_tick 75 = .ok (.iconst 1, 1) := by decide +kernel
theorem d_T_tick_76 : decode b_T_tick 76 = .ok (.goto 4, 3) := by decide +kernel
theorem d_T_tick_79 : decode b_T_tick 79 = .ok (.iconst 0, 1) := by decide +kernel
theorem d_T_tick_80 : decode b_T_tick 80 = .ok (.iadd, 1) := by decide +kernel
theorem d_T_tick_81 : decode b_T_tick 81 = .ok (.istore_n 2, 1) := by decide +kernel
theorem d_T_tick_82 : decode b_T_tick 82 = .ok (.iinc 3 1, 3) := by decide +kernel
theorem d_T_tick_85 : decode b_T_tick 85 = .ok (.goto (-68), 3) := by decide +kernel
theorem d_T_tick_88 : decode b_T_tick 88 = .ok (.aload_n 0, 1) := by decide +kernel
theorem d_T_tick_89 : decode b_T_tick 89 = .ok (.dup, 1) := by decide +kernel
theorem d_T_tick_90 : decode b_T_tick 90 = .ok (.getfield 47, 3) := by decide +kernel
theorem d_T_tick_93 : decode b_T_tick 93 = .ok (.iload_n 1, 1) := by decide +kernel
theorem d_T_tick_94 : decode b_T_tick 94 = .ok (.iadd, 1) := by decide +kernel
theorem d_T_tick_95 : decode b_T_tick 95 = .ok (.putfield 47, 3) := by decide +kernel
theorem d_T_tick_98 : decode b_T_tick 98 = .ok (.iload_n 1, 1) := by decide +kernel
theorem d_T_tick_99 : decode b_T_tick 99 = .ok (.ifCond .le 19, 3) := by decide +kernel
theorem d_T_tick_102 : decode b_T_tick 102 = .ok (.aload_n 0, 1) := by decide +kernel
theorem d_T_tick_103 : decode b_T_tick 103 = .ok (.getfield 26, 3) := by decide +kernel
theorem d_T_tick_106 : decode b_T_tick 106 = .ok (.iconst 0, 1) := by decide +kernel
theorem d_T_tick_107 : decode b_T_tick 107 = .ok (.putfield 110, 3) := by decide +kernel
theorem d_T_tick_110 : decode b_T_tick 110 = .ok (.aload_n 0, 1) := by decide +kernel
theorem d_T_tick_111 : decode b_T_tick 111 = .ok (.getfield 30, 3) := by decide +kernel
theorem d_T_tick_114 : decode b_T_tick 114 = .ok (.iconst 0, 1) := by decide +kernel
theorem d_T_tick_115 : decode b_T_tick 115 = .ok (.putfield 110, 3) := by decide +kernel
theorem d_T_tick_118 : decode b_T_tick 118 = .ok (.iload_n 2, 1) := by decide +kernel
theorem d_T_tick_119 : decode b_T_tick 119 = .ok (.ireturn, 1) := by decide +kernel
theorem d_T_down_0 : decode b_T_down 0 = .ok (.iload_n 1, 1) := by decide +kernel
theorem d_T_down_1 : decode b_T_down 1 = .ok (.iconst 0, 1) := by decide +kernel
theorem d_T_down_2 : decode b_T_down 2 = .ok (.iconst 3, 1) := by decide +kernel
theorem d_T_down_3 : decode b_T_down 3 = .ok (.invokestatic 59, 3) := by decide +kernel
theorem d_T_down_6 : decode b_T_down 6 = .ok (.ifCond .eq 15, 3) := by decide +kernel
theorem d_T_down_9 : decode b_T_down 9 = .ok (.aload_n 0, 1) := by decide +kernel
theorem d_T_down_10 : decode b_T_down 10 = .ok (.getfield 10, 3) := by decide +kernel
theorem d_T_down_13 : decode b_T_down 13 = .ok (.iload_n 1, 1) := by decide +kernel
theorem d_T_down_14 : decode b_T_down 14 = .ok (.invokevirtual 129, 3) := by decide +kernel
theorem d_T_down_17 : decode b_T_down 17 = .ok (.iload_n 2, 1) := by decide +kernel
theorem d_T_down_18 : decode b_T_down 18 = .ok (.if_icmp .ne 5, 3) := by decide +kernel
theorem d_T_down_21 : decode b_T_down 21 = .ok (.iconst 0, 1) := by decide +kernel
theorem d_T_down_22 : decode b_T_down 22 = .ok (.ireturn, 1) := by decide +kernel
theorem d_T_down_23 : decode b_T_down 23 = .ok (.aload_n 0, 1) := by decide +kernel
theorem d_T_down_24 : decode b_T_down 24 = .ok (.getfield 10, 3) := by decide +kernel
theorem d_T_down_27 : decode b_T_down 27 = .ok (.iload_n 1, 1) := by decide +kernel
theorem d_T_down_28 : decode b_T_down 28 = .ok (.invokevirtual 143, 3) := by decide +kernel
theorem d_T_down_31 : decode b_T_down 31 = .ok (.aload_n 0, 1) := by decide +kernel
theorem d_T_down_32 : decode b_T_down 32 = .ok (.getfield 19, 3) := by decide +kernel
theorem d_T_down_35 : decode b_T_down 35 = .ok (.invokevirtual 147, 3) := by decide +kernel
theorem d_T_down_38 : decode b_T_down 38 = .ok (.iconst 1, 1) := by decide +kernel
theorem d_T_down_39 : decode b_T_down 39 = .ok (.ireturn, 1) := by decide +kernel
theorem d_T_safe_0 : decode b_T_safe 0 = .ok (.aload_n 0, 1) := by decide +kernel
theorem d_T_safe_1 : decode b_T_safe 1 = .ok (.getfield 19, 3) := by decide +kernel
theorem d_T_safe_4 : decode b_T_safe 4 = .ok (.aload_n 0, 1) := by decide +kernel
theorem d_T_safe_5 : decode b_T_safe 5 = .ok (.getfield 10, 3) := by decide +kernel
theorem d_T_safe_8 : decode b_T_safe 8 = .ok (.aload_n 0, 1) := by decide +kernel
theorem d_T_safe_9 : decode b_T_safe 9 = .ok (.invokevirtual 150, 3) := by decide +kernel
theorem d_T_safe_12 : decode b_T_safe 12 = .ok (.iconst 0, 1) := by decide +kernel
theorem d_T_safe_13 : decode b_T_safe 13 = .ok (.invokevirtual 102, 3) := by decide +kernel
theorem d_T_safe_16 : decode b_T_safe 16 = .ok (.ireturn, 1) := by decide +kernel
theorem d_T_in_0 : decode b_T_in 0 = .ok (.iload_n 1, 1) := by decide +kernel
theorem d_T_in_1 : decode b_T_in 1 = .ok (.iconst 0, 1) := by decide +kernel
theorem d_T_in_2 : decode b_T_in 2 = .ok (.iconst 4, 1) := by decide +kernel
theorem d_T_in_3 : decode b_T_in 3 = .ok (.invokestatic 59, 3) := by decide +kernel
theorem d_T_in_6 : decode b_T_in 6 = .ok (.ifCond .eq 12, 3) := by decide +kernel
theorem d_T_in_9 : decode b_T_in 9 = .ok (.aload_n 0, 1) := by decide +kernel
theorem d_T_in_10 : decode b_T_in 10 = .ok (.getfield 39, 3) := by decide +kernel
theorem d_T_in_13 : decode b_T_in 13 = .ok (.iload_n 1, 1) := by decide +kernel
theorem d_T_in_14 : decode b_T_in 14 = .ok (.iaload, 1) := by decide +kernel
theorem d_T_in_15 : decode b_T_in 15 = .ok (.goto 4, 3) := by decide +kernel
theorem d_T_in_18 : decode b_T_in 18 = .ok (.iconst (-1), 1) := by decide +kernel
theorem d_T_in_19 : decode b_T_in 19 = .ok (.ireturn, 1) := by decide +kernel
theorem d_T_place_0 : decode b_T_place 0 = .ok (.aload_n 0, 1) := by decide +kernel
theorem d_T_place_1 : decode b_T_place 1 = .ok (.iload_n 1, 1) := by decide +kernel
theorem d_T_place_2 : decode b_T_place 2 = .ok (.invokevirtual 70, 3) := by decide +kernel
theorem d_T_place_5 : decode b_T_place 5 = .ok (.astore_n 2, 1) := by decide +kernel
theorem d_T_place_6 : decode b_T_place 6 = .ok (.aload_n 2, 1) := by decide +kernel
theorem d_T_place_7 : decode b_T_place 7 = .ok (.ifnonnull 7, 3) := by decide +kernel
theorem d_T_place_10 : decode b_T_place 10 = .ok (.iconst (-1), 1) := by decide +kernel
theorem d_T_place_11 : decode b_T_place 11 = .ok (.goto 7, 3) := by decide +kernel
theorem d_T_place_14 : decode b_T_place 14 = .ok (.aload_n 2, 1) := by decide +kernel
theorem d_T_place_15 : decode b_T_place 15 = .ok (.getfield 87, 3) := by decide +kernel
theorem d_T_place_18 : decode b_T_place 18 = .ok (.ireturn, 1) := by decide +kernel
theorem d_T_stage_0 : decode b_T_stage 0 = .ok (.aload_n 0, 1) := by decide +kernel
theorem d_T_stage_1 : decode b_T_stage 1 = .ok (.iload_n 1, 1) := by decide +kernel
theorem d_T_stage_2 : decode b_T_stage 2 = .ok (.invokevirtual 70, 3) := by decide +kernel
theorem d_T_stage_5 : decode b_T_stage 5 = .ok (.astore_n 2, 1) := by decide +kernel
theorem d_T_stage_6 : decode b_T_stage 6 = .ok (.aload_n 2, 1) := by decide +kernel
theorem d_T_stage_7 : decode b_T_stage 7 = .ok (.ifnonnull 7, 3) := by decide +kernel
theorem d_T_stage_10 : decode b_T_stage 10 = .ok (.iconst (-1), 1) := by decide +kernel
theorem d_T_stage_11 : decode b_T_stage 11 = .ok (.goto 7, 3) := by decide +kernel
theorem d_T_stage_14 : decode b_T_stage 14 = .ok (.aload_n 2, 1) := by decide +kernel
theorem d_T_stage_15 : decode b_T_stage 15 = .ok (.getfield 84, 3) := by decide +kernel
theorem d_T_stage_18 : decode b_T_stage 18 = .ok (.ireturn, 1) := by decide +kernel
theorem d_T_visited_0 : decode b_T_visited 0 = .ok (.aload_n 0, 1) := by decide +kernel
theorem d_T_visited_1 : decode b_T_visited 1 = .ok (.iload_n 1, 1) := by decide +kernel
theorem d_T_visited_2 : decode b_T_visited 2 = .ok (.invokevirtual 70, 3) := by decide +kernel
theorem d_T_visited_5 : decode b_T_visited 5 = .ok (.astore_n 3, 1) := by decide +kernel
theorem d_T_visited_6 : decode b_T_visited 6 = .ok (.aload_n 3, 1) := by decide +kernel
theorem d_T_visited_7 : decode b_T_visited 7 = .ok (.ifnull 11, 3) := by decide +kernel
theorem d_T_visited_10 : decode b_T_visited 10 = .ok (.aload_n 3, 1) := by decide +kernel
theorem d_T_visited_11 : decode b_T_visited 11 = .ok (.iload_n 2, 1) := by decide +kernel
theorem d_T_visited_12 : decode b_T_visited 12 = .ok (.invokevirtual 153, 3) := by decide +kernel
theorem d_T_visited_15 : decode b_T_visited 15 = .ok (.ifCond .ne 7, 3) := by decide +kernel
theorem d_T_visited_18 : decode b_T_visited 18 = .ok (.iconst (-1), 1) := by decide +kernel
theorem d_T_visited_19 : decode b_T_visited 19 = .ok (.goto 9, 3) := by decide +kernel
theorem d_T_visited_22 : decode b_T_visited 22 = .ok (.aload_n 3, 1) := by decide +kernel
theorem d_T_visited_23 : decode b_T_visited 23 = .ok (.getfield 156, 3) := by decide +kernel
theorem d_T_visited_26 : decode b_T_visited 26 = .ok (.iload_n 2, 1) := by decide +kernel
theorem d_T_visited_27 : decode b_T_visited 27 = .ok (.iaload, 1) := by decide +kernel
theorem d_T_visited_28 : decode b_T_visited 28 = .ok (.ireturn, 1) := by decide +kernel
theorem d_T_when_0 : decode b_T_when 0 = .ok (.aload_n 0, 1) := by decide +kernel
theorem d_T_when_1 : decode b_T_when 1 = .ok (.iload_n 1, 1) := by decide +kernel
theorem d_T_when_2 : decode b_T_when 2 = .ok (.invokevirtual 70, 3) := by decide +kernel
theorem d_T_when_5 : decode b_T_when 5 = .ok (.astore 4, 2) := by decide +kernel
theorem d_T_when_7 : decode b_T_when 7 = .ok (.aload 4, 2) := by decide +kernel
theorem d_T_when_9 : decode b_T_when 9 = .ok (.ifnull 12, 3) := by decide +kernel
theorem d_T_when_12 : decode b_T_when 12 = .ok (.aload 4, 2) := by decide +kernel
theorem d_T_when_14 : decode b_T_when 14 = .ok (.iload_n 2, 1) := by decide +kernel
theorem d_T_when_15 : decode b_T_when 15 = .ok (.invokevirtual 153, 3) := by decide +kernel
theorem d_T_when_18 : decode b_T_when 18 = .ok (.ifCond .ne 5, 3) := by decide +kernel
theorem d_T_when_21 : decode b_T_when 21 = .ok (.iconst (-1), 1) := by decide +kernel
theorem d_T_when_22 : decode b_T_when 22 = .ok (.ireturn, 1) := by decide +kernel
theorem d_T_when_23 : decode b_T_when 23 = .ok (.iload_n 3, 1) := by decide +kernel
theorem d_T_when_24 : decode b_T_when 24 = .ok (.ifCond .eq 13, 3) := by decide +kernel
theorem d_T_when_27 : decode b_T_when 27 = .ok (.aload 4, 2) := by decide +kernel
theorem d_T_when_29 : decode b_T_when 29 = .ok (.getfield 159, 3) := by decide +kernel
theorem d_T_when_32 : decode b_T_when 32 = .ok (.iload_n 2, 1) := by decide +kernel
theorem d_T_when_33 : decode b_T_when 33 = .ok (.iaload, 1) := by decide +kernel
theorem d_T_when_34 : decode b_T_when 34 = .ok (.goto 10, 3) := by decide +kernel
theorem d_T_when_37 : decode b_T_when 37 = .ok (.aload 4, 2) := by decide +kernel
theorem d_T_when_39 : decode b_T_when 39 = .ok (.getfield 162, 3) := by decide +kernel
theorem d_T_when_42 : decode b_T_when 42 = .ok (.iload_n 2, 1) := by decide +kernel
theorem d_T_when_43 : decode b_T_when 43 = .ok (.iaload, 1) := by decide +kernel
theorem d_T_when_44 : decode b_T_when 44 = .ok (.ireturn, 1) := by decide +kernel
theorem d_T_left_0 : decode b_T_left 0 = .ok (.aload_n 0, 1) := by decide +kernel
theorem d_T_left_1 : decode b_T_left 1 = .ok (.iload_n 1, 1) := by decide +kernel
theorem d_T_left_2 : decode b_T_left 2 = .ok (.invokevirtual 70, 3) := by decide +kernel
theorem d_T_left_5 : decode b_T_left 5 = .ok (.astore_n 2, 1) := by decide +kernel
theorem d_T_left_6 : decode b_T_left 6 = .ok (.aload_n 2, 1) := by decide +kernel
theorem d_T_left_7 : decode b_T_left 7 = .ok (.ifnonnull 7, 3) := by decide +kernel
theorem d_T_left_10 : decode b_T_left 10 = .ok (.iconst (-1), 1) := by decide +kernel
theorem d_T_left_11 : decode b_T_left 11 = .ok (.goto 7, 3) := by decide +kernel
theorem d_T_left_14 : decode b_T_left 14 = .ok (.aload_n 2, 1) := by decide +kernel
theorem d_T_left_15 : decode b_T_left 15 = .ok (.getfield 78, 3) := by decide +kernel
theorem d_T_left_18 : decode b_T_left 18 = .ok (.ireturn, 1) := by decide +kernel
theorem d_T_stay_0 : decode b_T_stay 0 = .ok (.aload_n 0, 1) := by decide +kernel
theorem d_T_stay_1 : decode b_T_stay 1 = .ok (.iload_n 1, 1) := by decide +kernel
theorem d_T_stay_2 : decode b_T_stay 2 = .ok (.invokevirtual 70, 3) := by decide +kernel
theorem d_T_stay_5 : decode b_T_stay 5 = .ok (.astore_n 2, 1) := by decide +kernel
theorem d_T_stay_6 : decode b_T_stay 6 = .ok (.aload_n 2, 1) := by decide +kernel
theorem d_T_stay_7 : decode b_T_stay 7 = .ok (.ifnull 11, 3) := by decide +kernel
theorem d_T_stay_10 : decode b_T_stay 10 = .ok (.aload_n 2, 1) := by decide +kernel
theorem d_T_stay_11 : decode b_T_stay 11 = .ok (.getfield 87, 3) := by decide +kernel
theorem d_T_stay_14 : decode b_T_stay 14 = .ok (.iconst 4, 1) := by decide +kernel
theorem d_T_stay_15 : decode b_T_stay 15 = .ok (.if_icmp .lt 5, 3) := by decide +kernel
theorem d_T_stay_18 : decode b_T_stay 18 = .ok (.iconst (-1), 1) := by decide +kernel
theorem d_T_stay_19 : decode b_T_stay 19 = .ok (.ireturn, 1) := by decide +kernel
theorem d_T_stay_20 : decode b_T_stay 20 = .ok (.aload_n 0, 1) := by decide +kernel
theorem d_T_stay_21 : decode b_T_stay 21 = .ok (.aload_n 2, 1) := by decide +kernel
theorem d_T_stay_22 : decode b_T_stay 22 = .ok (.invokevirtual 136, 3) := by decide +kernel
theorem d_T_stay_25 : decode b_T_stay 25 = .ok (.istore_n 3, 1) := by decide +kernel
theorem d_T_stay_26 : decode b_T_stay 26 = .ok (.iload_n 3, 1) := by decide +kernel
theorem d_T_stay_27 : decode b_T_stay 27 = .ok (.ifCond .ne 7, 3) := by decide +kernel
theorem d_T_stay_30 : decode b_T_stay 30 = .ok (.iconst (-1), 1) := by decide +kernel
theorem d_T_stay_31 : decode b_T_stay 31 = .ok (.goto 18, 3) := by decide +kernel
theorem d_T_stay_34 : decode b_T_stay 34 = .ok (.iconst 0, 1) := by decide +kernel
theorem d_T_stay_35 : decode b_T_stay 35 = .ok (.aload_n 2, 1) := by decide +kernel
theorem d_T_stay_36 : decode b_T_stay 36 = .ok (.getfield 78, 3) := by decide +kernel
theorem d_T_stay_39 : decode b_T_stay 39 = .ok (.iload_n 3, 1) := by decide +kernel
theorem d_T_stay_40 : decode b_T_stay 40 = .ok (.iadd, 1) := by decide +kernel
theorem d_T_stay_41 : decode b_T_stay 41 = .ok (.aload_n 2, 1) := by decide +kernel
theorem d_T_stay_42 : decode b_T_stay 42 = .ok (.getfield 165, 3) := by decide +kernel
theorem d_T_stay_45 : decode b_T_stay 45 = .ok (.isub, 1) := by decide +kernel
theorem d_T_stay_46 : decode b_T_stay 46 = .ok (.invokestatic 168, 3) := by decide +kernel
theorem d_T_stay_49 : decode b_T_stay 49 = .ok (.ireturn, 1) := by decide +kernel
theorem d_T_count_0 : decode b_T_count 0 = .ok (.iload_n 1, 1) := by decide +kernel
theorem d_T_count_1 : decode b_T_count 1 = .ok (.tableswitch 75 0 5 #[39, 44, 49, 54, 62, 70], 39) := by decide +kernel
theorem d_T_count_40 : decode b_T_count 40 = .ok (.aload_n 0, 1) := by decide +kernel
theorem d_T_count_41 : decode b_T_count 41 = .ok (.getfield 43, 3) := by decide +kernel
theorem d_T_count_44 : decode b_T_count 44 = .ok (.ireturn, 1) := by decide +kernel
theorem d_T_count_45 : decode b_T_count 45 = .ok (.aload_n 0, 1) := by decide +kernel
theorem d_T_count_46 : decode b_T_count 46 = .ok (.invokevirtual 173, 3) := by decide +kernel
theorem d_T_count_49 : decode b_T_count 49 = .ok (.ireturn, 1) := by decide +kernel
theorem d_T_count_50 : decode b_T_count 50 = .ok (.aload_n 0, 1) := by decide +kernel
theorem d_T_count_51 : decode b_T_count 51 = .ok (.invokevirtual 176, 3) := by decide +kernel
theorem d_T_count_54 : decode b_T_count 54 = .ok (.ireturn, 1) := by decide +kernel
theorem d_T_count_55 : decode b_T_count 55 = .ok (.aload_n 0, 1) := by decide +kernel
theorem d_T_count_56 : decode b_T_count 56 = .ok (.getfield 26, 3) := by decide +kernel
theorem d_T_count_59 : decode b_T_count 59 = .ok (.getfield 179, 3) := by decide +kernel
theorem d_T_count_62 : decode b_T_count 62 = .ok (.ireturn, 1) := by decide +kernel
theorem d_T_count_63 : decode b_T_count 63 = .ok (.aload_n 0, 1) := by decide +kernel
theorem d_T_count_64 : decode b_T_count 64 = .ok (.getfield 30, 3) := by decide +kernel
theorem d_T_count_67 : decode b_T_count 67 = .ok (.getfield 179, 3) := by decide +kernel
theorem d_T_count_70 : decode b_T_count 70 = .ok (.ireturn, 1) := by decide +kernel
theorem d_T_count_71 : decode b_T_count 71 = .ok (.aload_n 0, 1) := by decide +kernel
theorem d_T_count_72 : decode b_T_count 72 = .ok (.getfield 47, 3) := by decide +kernel
theorem d_T_count_75 : decode b_T_count 75 = .ok (.ireturn, 1) := by decide +kernel
theorem d_T_count_76 : decode b_T_count 76 = .ok (.iconst (-1), 1) := by decide +kernel
theorem d_T_count_77 : decode b_T_count 77 = .ok (.ireturn, 1) := by decide +kernel
theorem d_T_isWithin_0 : decode b_T_isWithin 0 = .ok (.iload_n 0, 1) := by decide +kernel
theorem d_T_isWithin_1 : decode b_T_isWithin 1 = .ok (.iload_n 1, 1) := by decide +kernel
theorem d_T_isWithin_2 : decode b_T_isWithin 2 = .ok (.if_icmp .lt 12, 3) := by decide +kernel
theorem d_T_isWithin_5 : decode b_T_isWithin 5 = .ok (.iload_n 0, 1) := by decide +kernel
theorem d_T_isWithin_6 : decode b_T_isWithin 6 = .ok (.iload_n 2, 1) := by decide +kernel
theorem d_T_isWithin_7 : decode b_T_isWithin 7 = .ok (.if_icmp .gt 7, 3) := by decide +kernel
theorem d_T_isWithin_10 : decode b_T_isWithin 10 = .ok (.iconst 1, 1) := by decide +kernel
theorem d_T_isWithin_11 : decode b_T_isWithin 11 = .ok (.goto 4, 3) := by decide +kernel
theorem d_T_isWithin_14 : decode b_T_isWithin 14 = .ok (.iconst 0, 1) := by decide +kernel
theorem d_T_isWithin_15 : decode b_T_isWithin 15 = .ok (.ireturn, 1) := by decide +kernel
theorem d_T_waferOf_0 : decode b_T_waferOf 0 = .ok (.iload_n 1, 1) := by decide +kernel
theorem d_T_waferOf_1 : decode b_T_waferOf 1 = .ok (.iconst 0, 1) := by decide +kernel
theorem d_T_waferOf_2 : decode b_T_waferOf 2 = .ok (.aload_n 0, 1) := by decide +kernel
theorem d_T_waferOf_3 : decode b_T_waferOf 3 = .ok (.getfield 43, 3) := by decide +kernel
theorem d_T_waferOf_6 : decode b_T_waferOf 6 = .ok (.iconst 1, 1) := by decide +kernel
theorem d_T_waferOf_7 : decode b_T_waferOf 7 = .ok (.isub, 1) := by decide +kernel
theorem d_T_waferOf_8 : decode b_T_waferOf 8 = .ok (.invokestatic 59, 3) := by decide +kernel
theorem d_T_waferOf_11 : decode b_T_waferOf 11 = .ok (.ifCond .eq 12, 3) := by decide +kernel
theorem d_T_waferOf_14 : decode b_T_waferOf 14 = .ok (.aload_n 0, 1) := by decide +kernel
theorem d_T_waferOf_15 : decode b_T_waferOf 15 = .ok (.getfield 35, 3) := by decide +kernel
theorem d_T_waferOf_18 : decode b_T_waferOf 18 = .ok (.iload_n 1, 1) := by decide +kernel
theorem d_T_waferOf_19 : decode b_T_waferOf 19 = .ok (.aaload, 1) := by decide +kernel
theorem d_T_waferOf_20 : decode b_T_waferOf 20 = .ok (.goto 4, 3) := by decide +kernel
theorem d_T_waferOf_23 : decode b_T_waferOf 23 = .ok (.aconst_null, 1) := by decide +kernel
theorem d_T_waferOf_24 : decode b_T_waferOf 24 = .ok (.areturn, 1) := by decide +kernel
theorem d_T_limitOf_0 : decode b_T_limitOf 0 = .ok (.aload_n 0, 1) := by decide +kernel
theorem d_T_limitOf_1 : decode b_T_limitOf 1 = .ok (.getfield 10, 3) := by decide +kernel
theorem d_T_limitOf_4 : decode b_T_limitOf 4 = .ok (.aload_n 1, 1) := by decide +kernel
theorem d_T_limitOf_5 : decode b_T_limitOf 5 = .ok (.getfield 81, 3) := by decide +kernel
theorem d_T_limitOf_8 : decode b_T_limitOf 8 = .ok (.invokevirtual 50, 3) := by decide +kernel
theorem d_T_limitOf_11 : decode b_T_limitOf 11 = .ok (.astore_n 2, 1) := by decide +kernel
theorem d_T_limitOf_12 : decode b_T_limitOf 12 = .ok (.aload_n 2, 1) := by decide +kernel
theorem d_T_limitOf_13 : decode b_T_limitOf 13 = .ok (.ifnonnull 7, 3) := by decide +kernel
theorem d_T_limitOf_16 : decode b_T_limitOf 16 = .ok (.iconst 0, 1) := by decide +kernel
theorem d_T_limitOf_17 : decode b_T_limitOf 17 = .ok (.goto 13, 3) := by decide +kernel
theorem d_T_limitOf_20 : decode b_T_limitOf 20 = .ok (.aload_n 2, 1) := by decide +kernel
theorem d_T_limitOf_21 : decode b_T_limitOf 21 = .ok (.aload_n 1, 1) := by decide +kernel
theorem d_T_limitOf_22 : decode b_T_limitOf 22 = .ok (.getfield 84, 3) := by decide +kernel
theorem d_T_limitOf_25 : decode b_T_limitOf 25 = .ok (.iconst 1, 1) := by decide +kernel
theorem d_T_limitOf_26 : decode b_T_limitOf 26 = .ok (.isub, 1) := by decide +kernel
theorem d_T_limitOf_27 : decode b_T_limitOf 27 = .ok (.invokevirtual 182, 3) := by decide +kernel
theorem d_T_limitOf_30 : decode b_T_limitOf 30 = .ok (.ireturn, 1) := by decide +kernel
theorem d_T_isTaken_0 : decode b_T_isTaken 0 = .ok (.iload_n 2, 1) := by decide +kernel
theorem d_T_isTaken_1 : decode b_T_isTaken 1 = .ok (.iconst 5, 1) := by decide +kernel
theorem d_T_isTaken_2 : decode b_T_isTaken 2 = .ok (.if_icmp .eq 25, 3) := by decide +kernel
theorem d_T_isTaken_5 : decode b_T_isTaken 5 = .ok (.iload_n 2, 1) := by decide +kernel
theorem d_T_isTaken_6 : decode b_T_isTaken 6 = .ok (.aload_n 1, 1) := by decide +kernel
theorem d_T_isTaken_7 : decode b_T_isTaken 7 = .ok (.getfield 87, 3) := by decide +kernel
theorem d_T_isTaken_10 : decode b_T_isTaken 10 = .ok (.if_icmp .eq 17, 3) := by decide +kernel
theorem d_T_isTaken_13 : decode b_T_isTaken 13 = .ok (.aload_n 0, 1) := by decide +kernel
theorem d_T_isTaken_14 : decode b_T_isTaken 14 = .ok (.getfield 39, 3) := by decide +kernel
theorem d_T_isTaken_17 : decode b_T_isTaken 17 = .ok (.iload_n 2, 1) := by decide +kernel
theorem d_T_isTaken_18 : decode b_T_isTaken 18 = .ok (.iaload, 1) := by decide +kernel
theorem d_T_isTaken_19 : decode b_T_isTaken 19 = .ok (.iconst (-1), 1) := by decide +kernel
theorem d_T_isTaken_20 : decode b_T_isTaken 20 = .ok (.if_icmp .eq 7, 3) := by decide +kernel
theorem d_T_isTaken_23 : decode b_T_isTaken 23 = .ok (.iconst 1, 1) := by decide +kernel
theorem d_T_isTaken_24 : decode b_T_isTaken 24 = .ok (.goto 4, 3) := by decide +kernel
theorem d_T_isTaken_27 : decode b_T_isTaken 27 = .ok (.iconst 0, 1) := by decide +kernel
theorem d_T_isTaken_28 : decode b_T_isTaken 28 = .ok (.ireturn, 1) := by decide +kernel
theorem d_T_situation_0 : decode b_T_situation 0 = .ok (.iconst 0, 1) := by decide +kernel
theorem d_T_situation_1 : decode b_T_situation 1 = .ok (.istore_n 1, 1) := by decide +kernel
theorem d_T_situation_2 : decode b_T_situation 2 = .ok (.iconst 0, 1) := by decide +kernel
theorem d_T_situation_3 : decode b_T_situation 3 = .ok (.istore_n 2, 1) := by decide +kernel
theorem d_T_situation_4 : decode b_T_situation 4 = .ok (.iload_n 2, 1) := by decide +kernel
theorem d_T_situation_5 : decode b_T_situation 5 = .ok (.iconst 4, 1) := by decide +kernel
theorem d_T_situation_6 : decode b_T_situation 6 = .ok (.if_icmp .gt 49, 3) := by decide +kernel
theorem d_T_situation_9 : decode b_T_situation 9 = .ok (.aload_n 0, 1) := by decide +kernel
theorem d_T_situation_10 : decode b_T_situation 10 = .ok (.aload_n 0, 1) := by decide +kernel
theorem d_T_situation_11 : decode b_T_situation 11 = .ok (.getfield 39, 3) := by decide +kernel
theorem d_T_situation_14 : decode b_T_situation 14 = .ok (.iload_n 2, 1) := by decide +kernel
theorem d_T_situation_15 : decode b_T_situation 15 = .ok (.iaload, 1) := by decide +kernel
theorem d_T_situation_16 : decode b_T_situation 16 = .ok (.invokevirtual 70, 3) := by decide +kernel
theorem d_T_situation_19 : decode b_T_situation 19 = .ok (.astore_n 3, 1) := by decide +kernel
theorem d_T_situation_20 : decode b_T_situation 20 = .ok (.aload_n 3, 1) := by decide +kernel
theorem d_T_situation_21 : decode b_T_situation 21 = .ok (.ifnull 28, 3) := by decide +kernel
theorem d_T_situation_24 : decode b_T_situation 24 = .ok (.aload_n 0, 1) := by decide +kernel
theorem d_T_situation_25 : decode b_T_situation 25 = .ok (.getfield 10, 3) := by decide +kernel
theorem d_T_situation_28 : decode b_T_situation 28 = .ok (.iload_n 2, 1) := by decide +kernel
theorem d_T_situation_29 : decode b_T_situation 29 = .ok (.invokevirtual 129, 3) := by decide +kernel
theorem d_T_situation_32 : decode b_T_situation 32 = .ok (.ifCond .ne 17, 3) := by decide +kernel
theorem d_T_situation_35 : decode b_T_situation 35 = .ok (.iload_n 1, 1) := by decide +kernel
theorem d_T_situation_36 : decode b_T_situation 36 = .ok (.iload_n 2, 1) := by decide +kernel
theorem d_T_situation_37 : decode b_T_situation 37 = .ok (.aload_n 3, 1) := by decide +kernel
theorem d_T_situation_38 : decode b_T_situation 38 = .ok (.getfield 81, 3) := by decide +kernel
theorem d_T_situation_41 : decode b_T_situation 41 = .ok (.aload_n 3, 1) := by decide +kernel
theorem d_T_situation_42 : decode b_T_situation 42 = .ok (.getfield 84, 3) := by decide +kernel
theorem d_T_situation_45 : decode b_T_situation 45 = .ok (.invokestatic 185, 3) := by decide +kernel
theorem d_T_situation_48 : decode b_T_situation 48 = .ok (.istore_n 1, 1) := by decide +kernel
theorem d_T_situation_49 : decode b_T_situation 49 = .ok (.iinc 2 1, 3) := by decide +kernel
theorem d_T_situation_52 : decode b_T_situation 52 = .ok (.goto (-48), 3) := by decide +kernel
theorem d_T_situation_55 : decode b_T_situation 55 = .ok (.iload_n 1, 1) := by decide +kernel
theorem d_T_situation_56 : decode b_T_situation 56 = .ok (.ireturn, 1) := by decide +kernel
theorem d_T_situationAfter_0 : decode b_T_situationAfter 0 = .ok (.aload_n 0, 1) := by decide +kernel
theorem d_T_situationAfter_1 : decode b_T_situationAfter 1 = .ok (.invokevirtual 150, 3) := by decide +kernel
theorem d_T_situationAfter_4 : decode b_T_situationAfter 4 = .ok (.aload_n 1, 1) := by decide +kernel
theorem d_T_situationAfter_5 : decode b_T_situationAfter 5 = .ok (.getfield 81, 3) := by decide +kernel
theorem d_T_situationAfter_8 : decode b_T_situationAfter 8 = .ok (.aload_n 1, 1) := by decide +kernel
theorem d_T_situationAfter_9 : decode b_T_situationAfter 9 = .ok (.getfield 84, 3) := by decide +kernel
theorem d_T_situationAfter_12 : decode b_T_situationAfter 12 = .ok (.aload_n 1, 1) := by decide +kernel
theorem d_T_situationAfter_13 : decode b_T_situationAfter 13 = .ok (.getfield 87, 3) := by decide +kernel
theorem d_T_situationAfter_16 : decode b_T_situationAfter 16 = .ok (.iload_n 2, 1) := by decide +kernel
theorem d_T_situationAfter_17 : decode b_T_situationAfter 17 = .ok (.invokestatic 191, 3) := by decide +kernel
theorem d_T_situationAfter_20 : decode b_T_situationAfter 20 = .ok (.ireturn, 1) := by decide +kernel
theorem d_T_robotFor_0 : decode b_T_robotFor 0 = .ok (.iload_n 1, 1) := by decide +kernel
theorem d_T_robotFor_1 : decode b_T_robotFor 1 = .ok (.invokestatic 195, 3) := by decide +kernel
theorem d_T_robotFor_4 : decode b_T_robotFor 4 = .ok (.ifCond .ne 10, 3) := by decide +kernel
theorem d_T_robotFor_7 : decode b_T_robotFor 7 = .ok (.iload_n 2, 1) := by decide +kernel
theorem d_T_robotFor_8 : decode b_T_robotFor 8 = .ok (.invokestatic 195, 3) := by decide +kernel
theorem d_T_robotFor_11 : decode b_T_robotFor 11 = .ok (.ifCond .eq 10, 3) := by decide +kernel
theorem d_T_robotFor_14 : decode b_T_robotFor 14 = .ok (.aload_n 0, 1) := by decide +kernel
theorem d_T_robotFor_15 : decode b_T_robotFor 15 = .ok (.getfield 30, 3) := by decide +kernel
theorem d_T_robotFor_18 : decode b_T_robotFor 18 = .ok (.goto 7, 3) := by decide +kernel
theorem d_T_robotFor_21 : decode b_T_robotFor 21 = .ok (.aload_n 0, 1) := by decide +kernel
theorem d_T_robotFor_22 : decode b_T_robotFor 22 = .ok (.getfield 26, 3) := by decide +kernel
theorem d_T_robotFor_25 : decode b_T_robotFor 25 = .ok (.areturn, 1) := by decide +kernel
theorem d_T_carry_0 : decode b_T_carry 0 = .ok (.aload_n 0, 1) := by decide +kernel
theorem d_T_carry_1 : decode b_T_carry 1 = .ok (.iload_n 1, 1) := by decide +kernel
theorem d_T_carry_2 : decode b_T_carry 2 = .ok (.invokevirtual 70, 3) := by decide +kernel
theorem d_T_carry_5 : decode b_T_carry 5 = .ok (.astore_n 3, 1) := by decide +kernel
theorem d_T_carry_6 : decode b_T_carry 6 = .ok (.aload_n 3, 1) := by decide +kernel
theorem d_T_carry_7 : decode b_T_carry 7 = .ok (.ifnonnull 4, 3) := by decide +kernel
theorem d_T_carry_10 : decode b_T_carry 10 = .ok (.return_, 1) := by decide +kernel
theorem d_T_carry_11 : decode b_T_carry 11 = .ok (.aload_n 0, 1) := by decide +kernel
theorem d_T_carry_12 : decode b_T_carry 12 = .ok (.aload_n 3, 1) := by decide +kernel
theorem d_T_carry_13 : decode b_T_carry 13 = .ok (.getfield 87, 3) := by decide +kernel
theorem d_T_carry_16 : decode b_T_carry 16 = .ok (.iload_n 2, 1) := by decide +kernel
theorem d_T_carry_17 : decode b_T_carry 17 = .ok (.invokevirtual 106, 3) := by decide +kernel
theorem d_T_carry_20 : decode b_T_carry 20 = .ok (.astore 4, 2) := by decide +kernel
theorem d_T_carry_22 : decode b_T_carry 22 = .ok (.aload 4, 2) := by decide +kernel
theorem d_T_carry_24 : decode b_T_carry 24 = .ok (.iconst 1, 1) := by decide +kernel
theorem d_T_carry_25 : decode b_T_carry 25 = .ok (.putfield 110, 3) := by decide +kernel
theorem d_T_carry_28 : decode b_T_carry 28 = .ok (.aload 4, 2) := by decide +kernel
theorem d_T_carry_30 : decode b_T_carry 30 = .ok (.dup, 1) := by decide +kernel
theorem d_T_carry_31 : decode b_T_carry 31 = .ok (.getfield 179, 3) := by decide +kernel
theorem d_T_carry_34 : decode b_T_carry 34 = .ok (.iconst 1, 1) := by decide +kernel
theorem d_T_carry_35 : decode b_T_carry 35 = .ok (.iadd, 1) := by decide +kernel
theorem d_T_carry_36 : decode b_T_carry 36 = .ok (.putfield 179, 3) := by decide +kernel
theorem d_T_carry_39 : decode b_T_carry 39 = .ok (.aload_n 3, 1) := by decide +kernel
theorem d_T_carry_40 : decode b_T_carry 40 = .ok (.getfield 87, 3) := by decide +kernel
theorem d_T_carry_43 : decode b_T_carry 43 = .ok (.iconst 5, 1) := by decide +kernel
theorem d_T_carry_44 : decode b_T_carry 44 = .ok (.if_icmp .eq 13, 3) := by decide +kernel
theorem d_T_carry_47 : decode b_T_carry 47 = .ok (.aload_n 0, 1) := by decide +kernel
theorem d_T_carry_48 : decode b_T_carry 48 = .ok (.getfield 39, 3) := by decide +kernel
theorem d_T_carry_51 : decode b_T_carry 51 = .ok (.aload_n 3, 1) := by decide +kernel
theorem d_T_carry_52 : decode b_T_carry 52 = .ok (.getfield 87, 3) := by decide +kernel
theorem d_T_carry_55 : decode b_T_carry 55 = .ok (.iconst (-1), 1) := by decide +kernel
theorem d_T_carry_56 : decode b_T_carry 56 = .ok (.iastore, 1) := by decide +kernel
theorem d_T_carry_57 : decode b_T_carry 57 = .ok (.iload_n 2, 1) := by decide +kernel
theorem d_T_carry_58 : decode b_T_carry 58 = .ok (.iconst 5, 1) := by decide +kernel
theorem d_T_carry_59 : decode b_T_carry 59 = .ok (.if_icmp .eq 10, 3) := by decide +kernel
theorem d_T_carry_62 : decode b_T_carry 62 = .ok (.aload_n 0, 1) := by decide +kernel
theorem d_T_carry_63 : decode b_T_carry 63 = .ok (.getfield 39, 3) := by decide +kernel
theorem d_T_carry_66 : decode b_T_carry 66 = .ok (.iload_n 2, 1) := by decide +kernel
theorem d_T_carry_67 : decode b_T_carry 67 = .ok (.iload_n 1, 1) := by decide +kernel
theorem d_T_carry_68 : decode b_T_carry 68 = .ok (.iastore, 1) := by decide +kernel
theorem d_T_carry_69 : decode b_T_carry 69 = .ok (.aload_n 3, 1) := by decide +kernel
theorem d_T_carry_70 : decode b_T_carry 70 = .ok (.iload_n 2, 1) := by decide +kernel
theorem d_T_carry_71 : decode b_T_carry 71 = .ok (.invokevirtual 198, 3) := by decide +kernel
theorem d_T_carry_74 : decode b_T_carry 74 = .ok (.aload_n 0, 1) := by decide +kernel
theorem d_T_carry_75 : decode b_T_carry 75 = .ok (.getfield 10, 3) := by decide +kernel
theorem d_T_carry_78 : decode b_T_carry 78 = .ok (.aload_n 3, 1) := by decide +kernel
theorem d_T_carry_79 : decode b_T_carry 79 = .ok (.getfield 81, 3) := by decide +kernel
theorem d_T_carry_82 : decode b_T_carry 82 = .ok (.invokevirtual 50, 3) := by decide +kernel
theorem d_T_carry_85 : decode b_T_carry 85 = .ok (.astore 5, 2) := by decide +kernel
theorem d_T_carry_87 : decode b_T_carry 87 = .ok (.iload_n 2, 1) := by decide +kernel
theorem d_T_carry_88 : decode b_T_carry 88 = .ok (.iconst 4, 1) := by decide +kernel
theorem d_T_carry_89 : decode b_T_carry 89 = .ok (.if_icmp .ge 25, 3) := by decide +kernel
theorem d_T_carry_92 : decode b_T_carry 92 = .ok (.aload 5, 2) := by decide +kernel
theorem d_T_carry_94 : decode b_T_carry 94 = .ok (.ifnull 20, 3) := by decide +kernel
theorem d_T_carry_97 : decode b_T_carry 97 = .ok (.aload_n 3, 1) := by decide +kernel
theorem d_T_carry_98 : decode b_T_carry 98 = .ok (.aload 5, 2) := by decide +kernel
theorem d_T_carry_100 : decode b_T_carry 100 = .ok (.aload_n 3, 1) := by decide +kernel
theorem d_T_carry_101 : decode b_T_carry 101 = .ok (.getfield 84, 3) := by decide +kernel
theorem d_T_carry_104 : decode b_T_carry 104 = .ok (.invokevirtual 201, 3) := by decide +kernel
theorem d_T_carry_107 : decode b_T_carry 107 = .ok (.aload_n 0, 1) := by decide +kernel
theorem d_T_carry_108 : decode b_T_carry 108 = .ok (.getfield 47, 3) := by decide +kernel
theorem d_T_carry_111 : decode b_T_carry 111 = .ok (.invokevirtual 204, 3) := by decide +kernel
theorem d_T_carry_114 : decode b_T_carry 114 = .ok (.return_, 1) := by decide +kernel
theorem d_T_rankOf_0 : decode b_T_rankOf 0 = .ok (.aload_n 0, 1) := by decide +kernel
theorem d_T_rankOf_1 : decode b_T_rankOf 1 = .ok (.iload_n 1, 1) := by decide +kernel
theorem d_T_rankOf_2 : decode b_T_rankOf 2 = .ok (.invokevirtual 207, 3) := by decide +kernel
theorem d_T_rankOf_5 : decode b_T_rankOf 5 = .ok (.iconst 5, 1) := by decide +kernel
theorem d_T_rankOf_6 : decode b_T_rankOf 6 = .ok (.if_icmp .ne 7, 3) := by decide +kernel
theorem d_T_rankOf_9 : decode b_T_rankOf 9 = .ok (.sipush 1001, 3) := by decide +kernel
theorem d_T_rankOf_12 : decode b_T_rankOf 12 = .ok (.ireturn, 1) := by decide +kernel
theorem d_T_rankOf_13 : decode b_T_rankOf 13 = .ok (.aload_n 0, 1) := by decide +kernel
theorem d_T_rankOf_14 : decode b_T_rankOf 14 = .ok (.iload_n 1, 1) := by decide +kernel
theorem d_T_rankOf_15 : decode b_T_rankOf 15 = .ok (.invokevirtual 209, 3) := by decide +kernel
theorem d_T_rankOf_18 : decode b_T_rankOf 18 = .ok (.istore_n 2, 1) := by decide +kernel
theorem d_T_rankOf_19 : decode b_T_rankOf 19 = .ok (.iload_n 2, 1) := by decide +kernel
theorem d_T_rankOf_20 : decode b_T_rankOf 20 = .ok (.iconst (-1), 1) := by decide +kernel
theorem d_T_rankOf_21 : decode b_T_rankOf 21 = .ok (.if_icmp .ne 9, 3) := by decide +kernel
theorem d_T_rankOf_24 : decode b_T_rankOf 24 = .ok (.sipush 1000, 3) := by decide +kernel
theorem d_T_rankOf_27 : decode b_T_rankOf 27 = .ok (.goto 4, 3) := by decide +kernel
theorem d_T_rankOf_30 : decode b_T_rankOf 30 = .ok (.iload_n 2, 1) := by decide +kernel
theorem d_T_rankOf_31 : decode b_T_rankOf 31 = .ok (.ireturn, 1) := by decide +kernel
theorem d_T_countFinished_0 : decode b_T_countFinished 0 = .ok (.iconst 0, 1) := by decide +kernel
theorem d_T_countFinished_1 : decode b_T_countFinished 1 = .ok (.istore_n 1, 1) := by decide +kernel
theorem d_T_countFinished_2 : decode b_T_countFinished 2 = .ok (.iconst 0, 1) := by decide +kernel
theorem d_T_countFinished_3 : decode b_T_countFinished 3 = .ok (.istore_n 2, 1) := by decide +kernel
theorem d_T_countFinished_4 : decode b_T_countFinished 4 = .ok (.iload_n 2, 1) := by decide +kernel
theorem d_T_countFinished_5 : decode b_T_countFinished 5 = .ok (.aload_n 0, 1) := by decide +kernel
theorem d_T_countFinished_6 : decode b_T_countFinished 6 = .ok (.getfield 43, 3) := by decide +kernel
theorem d_T_countFinished_9 : decode b_T_countFinished 9 = .ok (.if_icmp .ge 34, 3) := by decide +kernel
theorem d_T_countFinished_12 : decode b_T_countFinished 12 = .ok (.aload_n 0, 1) := by decide +kernel
theorem d_T_countFinished_13 : decode b_T_countFinished 13 = .ok (.iload_n 2, 1) := by decide +kernel
theorem d_T_countFinished_14 : decode b_T_countFinished 14 = .ok (.invokevirtual 70, 3) := by decide +kernel
theorem d_T_countFinished_17 : decode b_T_countFinished 17 = .ok (.astore_n 3, 1) := by decide +kernel
theorem d_T_countFinished_18 : decode b_T_countFinished 18 = .ok (.iload_n 1, 1) := by decide +kernel
theorem d_T_countFinished_19 : decode b_T_countFinished 19 = .ok (.aload_n 3, 1) := by decide +kernel
theorem d_T_countFinished_20 : decode b_T_countFinished 20 = .ok (.ifnull 14, 3) := by decide +kernel
theorem d_T_countFinished_23 : decode b_T_countFinished 23 = .ok (.aload_n 3, 1) := by decide +kernel
theorem d_T_countFinished_24 : decode b_T_countFinished 24 = .ok (.getfield 74, 3) := by decide +kernel
theorem d_T_countFinished_27 : decode b_T_countFinished 27 = .ok (.ifCond .eq 7, 3) := by decide +kernel
theorem d_T_countFinished_30 : decode b_T_countFinished 30 = .ok (.iconst 1, 1) := by decide +kernel
theorem d_T_countFinished_31 : decode b_T_countFinished 31 = .ok (.goto 4, 3) := by decide +kernel
theorem d_T_countFinished_34 : decode b_T_countFinished 34 = .ok (.iconst 0, 1) := by decide +kernel
theorem d_T_countFinished_35 : decode b_T_countFinished 35 = .ok (.iadd, 1) := by decide +kernel
theorem d_T_countFinished_36 : decode b_T_countFinished 36 = .ok (.istore_n 1, 1) := by decide +kernel
theorem d_T_countFinished_37 : decode b_T_countFinished 37 = .ok (.iinc 2 1, 3) := by decide +kernel
theorem d_T_countFinished_40 : decode b_T_countFinished 40 = .ok (.goto (-36), 3) := by decide +kernel
theorem d_T_countFinished_43 : decode b_T_countFinished 43 = .ok (.iload_n 1, 1) := by decide +kernel
theorem d_T_countFinished_44 : decode b_T_countFinished 44 = .ok (.ireturn, 1) := by decide +kernel
theorem d_T_countLate_0 : decode b_T_countLate 0 = .ok (.iconst 0, 1) := by decide +kernel
theorem d_T_countLate_1 : decode b_T_countLate 1 = .ok (.istore_n 1, 1) := by decide +kernel
theorem d_T_countLate_2 : decode b_T_countLate 2 = .ok (.iconst 0, 1) := by decide +kernel
theorem d_T_countLate_3 : decode b_T_countLate 3 = .ok (.istore_n 2, 1) := by decide +kernel
theorem d_T_countLate_4 : decode b_T_countLate 4 = .ok (.iload_n 2, 1) := by decide +kernel
theorem d_T_countLate_5 : decode b_T_countLate 5 = .ok (.aload_n 0, 1) := by decide +kernel
theorem d_T_countLate_6 : decode b_T_countLate 6 = .ok (.getfield 43, 3) := by decide +kernel
theorem d_T_countLate_9 : decode b_T_countLate 9 = .ok (.if_icmp .ge 34, 3) := by decide +kernel
theorem d_T_countLate_12 : decode b_T_countLate 12 = .ok (.aload_n 0, 1) := by decide +kernel
theorem d_T_countLate_13 : decode b_T_countLate 13 = .ok (.iload_n 2, 1) := by decide +kernel
theorem d_T_countLate_14 : decode b_T_countLate 14 = .ok (.invokevirtual 70, 3) := by decide +kernel
theorem d_T_countLate_17 : decode b_T_countLate 17 = .ok (.astore_n 3, 1) := by decide +kernel
theorem d_T_countLate_18 : decode b_T_countLate 18 = .ok (.iload_n 1, 1) := by decide +kernel
theorem d_T_countLate_19 : decode b_T_countLate 19 = .ok (.aload_n 3, 1) := by decide +kernel
theorem d_T_countLate_20 : decode b_T_countLate 20 = .ok (.ifnull 14, 3) := by decide +kernel
theorem d_T_countLate_23 : decode b_T_countLate 23 = .ok (.aload_n 3, 1) := by decide +kernel
theorem d_T_countLate_24 : decode b_T_countLate 24 = .ok (.getfield 212, 3) := by decide +kernel
theorem d_T_countLate_27 : decode b_T_countLate 27 = .ok (.ifCond .eq 7, 3) := by decide +kernel
theorem d_T_countLate_30 : decode b_T_countLate 30 = .ok (.iconst 1, 1) := by decide +kernel
theorem d_T_countLate_31 : decode b_T_countLate 31 = .ok (.goto 4, 3) := by decide +kernel
theorem d_T_countLate_34 : decode b_T_countLate 34 = .ok (.iconst 0, 1) := by decide +kernel
theorem d_T_countLate_35 : decode b_T_countLate 35 = .ok (.iadd, 1) := by decide +kernel
theorem d_T_countLate_36 : decode b_T_countLate 36 = .ok (.istore_n 1, 1) := by decide +kernel
theorem d_T_countLate_37 : decode b_T_countLate 37 = .ok (.iinc 2 1, 3) := by decide +kernel
theorem d_T_countLate_40 : decode b_T_countLate 40 = .ok (.goto (-36), 3) := by decide +kernel
theorem d_T_countLate_43 : decode b_T_countLate 43 = .ok (.iload_n 1, 1) := by decide +kernel
theorem d_T_countLate_44 : decode b_T_countLate 44 = .ok (.ireturn, 1) := by decide +kernel
