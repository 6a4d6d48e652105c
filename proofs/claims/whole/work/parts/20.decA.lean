theorem d_E_init_0 : decode b_E_init 0 = .ok (.aload_n 0, 1) := by decide +kernel
theorem d_E_init_1 : decode b_E_init 1 = .ok (.invokespecial 3, 3) := by decide +kernel
theorem d_E_init_4 : decode b_E_init 4 = .ok (.aload_n 0, 1) := by decide +kernel
theorem d_E_init_5 : decode b_E_init 5 = .ok (.sipush 1024, 3) := by decide +kernel
theorem d_E_init_8 : decode b_E_init 8 = .ok (.newarray .long, 2) := by decide +kernel
theorem d_E_init_10 : decode b_E_init 10 = .ok (.putfield 11, 3) := by decide +kernel
theorem d_E_init_13 : decode b_E_init 13 = .ok (.aload_n 0, 1) := by decide +kernel
theorem d_E_init_14 : decode b_E_init 14 = .ok (.sipush 1024, 3) := by decide +kernel
theorem d_E_init_17 : decode b_E_init 17 = .ok (.newarray .long, 2) := by decide +kernel
theorem d_E_init_19 : decode b_E_init 19 = .ok (.putfield 15, 3) := by decide +kernel
theorem d_E_init_22 : decode b_E_init 22 = .ok (.return_, 1) := by decide +kernel
theorem d_E_forget_0 : decode b_E_forget 0 = .ok (.aload_n 0, 1) := by decide +kernel
theorem d_E_forget_1 : decode b_E_forget 1 = .ok (.getfield 11, 3) := by decide +kernel
theorem d_E_forget_4 : decode b_E_forget 4 = .ok (.lconst 0, 1) := by decide +kernel
theorem d_E_forget_5 : decode b_E_forget 5 = .ok (.invokestatic 18, 3) := by decide +kernel
theorem d_E_forget_8 : decode b_E_forget 8 = .ok (.aload_n 0, 1) := by decide +kernel
theorem d_E_forget_9 : decode b_E_forget 9 = .ok (.getfield 15, 3) := by decide +kernel
theorem d_E_forget_12 : decode b_E_forget 12 = .ok (.lconst 0, 1) := by decide +kernel
theorem d_E_forget_13 : decode b_E_forget 13 = .ok (.invokestatic 18, 3) := by decide +kernel
theorem d_E_forget_16 : decode b_E_forget 16 = .ok (.return_, 1) := by decide +kernel
theorem d_E_search_0 : decode b_E_search 0 = .ok (.iload_n 2, 1) := by decide +kernel
theorem d_E_search_1 : decode b_E_search 1 = .ok (.ifCond .ne 5, 3) := by decide +kernel
theorem d_E_search_4 : decode b_E_search 4 = .ok (.iconst 1, 1) := by decide +kernel
theorem d_E_search_5 : decode b_E_search 5 = .ok (.ireturn, 1) := by decide +kernel
theorem d_E_search_6 : decode b_E_search 6 = .ok (.iload_n 3, 1) := by decide +kernel
theorem d_E_search_7 : decode b_E_search 7 = .ok (.bipush 35, 2) := by decide +kernel
theorem d_E_search_9 : decode b_E_search 9 = .ok (.if_icmp .lt 5, 3) := by decide +kernel
theorem d_E_search_12 : decode b_E_search 12 = .ok (.iconst 0, 1) := by decide +kernel
theorem d_E_search_13 : decode b_E_search 13 = .ok (.ireturn, 1) := by decide +kernel
theorem d_E_search_14 : decode b_E_search 14 = .ok (.iload_n 2, 1) := by decide +kernel
theorem d_E_search_15 : decode b_E_search 15 = .ok (.bipush 6, 2) := by decide +kernel
theorem d_E_search_17 : decode b_E_search 17 = .ok (.ishr, 1) := by decide +kernel
theorem d_E_search_18 : decode b_E_search 18 = .ok (.sipush 1023, 3) := by decide +kernel
theorem d_E_search_21 : decode b_E_search 21 = .ok (.iand, 1) := by decide +kernel
theorem d_E_search_22 : decode b_E_search 22 = .ok (.istore 4, 2) := by decide +kernel
theorem d_E_search_24 : decode b_E_search 24 = .ok (.lconst 1, 1) := by decide +kernel
theorem d_E_search_25 : decode b_E_search 25 = .ok (.iload_n 2, 1) := by decide +kernel
theorem d_E_search_26 : decode b_E_search 26 = .ok (.bipush 63, 2) := by decide +kernel
theorem d_E_search_28 : decode b_E_search 28 = .ok (.iand, 1) := by decide +kernel
theorem d_E_search_29 : decode b_E_search 29 = .ok (.lshl, 1) := by decide +kernel
theorem d_E_search_30 : decode b_E_search 30 = .ok (.lstore 5, 2) := by decide +kernel
theorem d_E_search_32 : decode b_E_search 32 = .ok (.aload_n 0, 1) := by decide +kernel
theorem d_E_search_33 : decode b_E_search 33 = .ok (.getfield 11, 3) := by decide +kernel
theorem d_E_search_36 : decode b_E_search 36 = .ok (.iload 4, 2) := by decide +kernel
theorem d_E_search_38 : decode b_E_search 38 = .ok (.laload, 1) := by decide +kernel
theorem d_E_search_39 : decode b_E_search 39 = .ok (.lload 5, 2) := by decide +kernel
theorem d_E_search_41 : decode b_E_search 41 = .ok (.land, 1) := by decide +kernel
theorem d_E_search_42 : decode b_E_search 42 = .ok (.lconst 0, 1) := by decide +kernel
theorem d_E_search_43 : decode b_E_search 43 = .ok (.lcmp, 1) := by decide +kernel
theorem d_E_search_44 : decode b_E_search 44 = .ok (.ifCond .ne 45, 3) := by decide +kernel
theorem d_E_search_47 : decode b_E_search 47 = .ok (.aload_n 0, 1) := by decide +kernel
theorem d_E_search_48 : decode b_E_search 48 = .ok (.aload_n 1, 1) := by decide +kernel
theorem d_E_search_49 : decode b_E_search 49 = .ok (.iload_n 2, 1) := by decide +kernel
theorem d_E_search_50 : decode b_E_search 50 = .ok (.iload_n 3, 1) := by decide +kernel
theorem d_E_search_51 : decode b_E_search 51 = .ok (.invokevirtual 24, 3) := by decide +kernel
theorem d_E_search_54 : decode b_E_search 54 = .ok (.istore 7, 2) := by decide +kernel
theorem d_E_search_56 : decode b_E_search 56 = .ok (.aload_n 0, 1) := by decide +kernel
theorem d_E_search_57 : decode b_E_search 57 = .ok (.getfield 11, 3) := by decide +kernel
theorem d_E_search_60 : decode b_E_search 60 = .ok (.iload 4, 2) := by decide +kernel
theorem d_E_search_62 : decode b_E_search 62 = .ok (.dup2, 1) := by decide +kernel
theorem d_E_search_63 : decode b_E_search 63 = .ok (.laload, 1) := by decide +kernel
theorem d_E_search_64 : decode b_E_search 64 = .ok (.lload 5, 2) := by decide +kernel
theorem d_E_search_66 : decode b_E_search 66 = .ok (.lor, 1) := by decide +kernel
theorem d_E_search_67 : decode b_E_search 67 = .ok (.lastore, 1) := by decide +kernel
theorem d_E_search_68 : decode b_E_search 68 = .ok (.aload_n 0, 1) := by decide +kernel
theorem d_E_search_69 : decode b_E_search 69 = .ok (.getfield 15, 3) := by decide +kernel
theorem d_E_search_72 : decode b_E_search 72 = .ok (.iload 4, 2) := by decide +kernel
theorem d_E_search_74 : decode b_E_search 74 = .ok (.dup2, 1) := by decide +kernel
theorem d_E_search_75 : decode b_E_search 75 = .ok (.laload, 1) := by decide +kernel
theorem d_E_search_76 : decode b_E_search 76 = .ok (.iload 7, 2) := by decide +kernel
theorem d_E_search_78 : decode b_E_search 78 = .ok (.ifCond .eq 8, 3) := by decide +kernel
theorem d_E_search_81 : decode b_E_search 81 = .ok (.lload 5, 2) := by decide +kernel
theorem d_E_search_83 : decode b_E_search 83 = .ok (.goto 4, 3) := by decide +kernel
theorem d_E_search_86 : decode b_E_search 86 = .ok (.lconst 0, 1) := by decide +kernel
theorem d_E_search_87 : decode b_E_search 87 = .ok (.lor, 1) := by decide +kernel
theorem d_E_search_88 : decode b_E_search 88 = .ok (.lastore, 1) := by decide +kernel
theorem d_E_search_89 : decode b_E_search 89 = .ok (.aload_n 0, 1) := by decide +kernel
theorem d_E_search_90 : decode b_E_search 90 = .ok (.getfield 15, 3) := by decide +kernel
theorem d_E_search_93 : decode b_E_search 93 = .ok (.iload 4, 2) := by decide +kernel
theorem d_E_search_95 : decode b_E_search 95 = .ok (.laload, 1) := by decide +kernel
theorem d_E_search_96 : decode b_E_search 96 = .ok (.lload 5, 2) := by decide +kernel
theorem d_E_search_98 : decode b_E_search 98 = .ok (.land, 1) := by decide +kernel
theorem d_E_search_99 : decode b_E_search 99 = .ok (.lconst 0, 1) := by decide +kernel
theorem d_E_search_100 : decode b_E_search 100 = .ok (.lcmp, 1) := by decide +kernel
theorem d_E_search_101 : decode b_E_search 101 = .ok (.ifCond .eq 7, 3) := by decide +kernel
theorem d_E_search_104 : decode b_E_search 104 = .ok (.iconst 1, 1) := by decide +kernel
theorem d_E_search_105 : decode b_E_search 105 = .ok (.goto 4, 3) := by decide +kernel
theorem d_E_search_108 : decode b_E_search 108 = .ok (.iconst 0, 1) := by decide +kernel
theorem d_E_search_109 : decode b_E_search 109 = .ok (.ireturn, 1) := by decide +kernel
theorem d_E_searchMoves_0 : decode b_E_searchMoves 0 = .ok (.iconst 5, 1) := by decide +kernel
theorem d_E_searchMoves_1 : decode b_E_searchMoves 1 = .ok (.istore 4, 2) := by decide +kernel
theorem d_E_searchMoves_3 : decode b_E_searchMoves 3 = .ok (.iload 4, 2) := by decide +kernel
theorem d_E_searchMoves_5 : decode b_E_searchMoves 5 = .ok (.ifCond .lt 102, 3) := by decide +kernel
theorem d_E_searchMoves_8 : decode b_E_searchMoves 8 = .ok (.iconst 0, 1) := by decide +kernel
theorem d_E_searchMoves_9 : decode b_E_searchMoves 9 = .ok (.istore 5, 2) := by decide +kernel
theorem d_E_searchMoves_11 : decode b_E_searchMoves 11 = .ok (.iload 5, 2) := by decide +kernel
theorem d_E_searchMoves_13 : decode b_E_searchMoves 13 = .ok (.iconst 4, 1) := by decide +kernel
theorem d_E_searchMoves_14 : decode b_E_searchMoves 14 = .ok (.if_icmp .gt 87, 3) := by decide +kernel
theorem d_E_searchMoves_17 : decode b_E_searchMoves 17 = .ok (.iload_n 2, 1) := by decide +kernel
theorem d_E_searchMoves_18 : decode b_E_searchMoves 18 = .ok (.iload 5, 2) := by decide +kernel
theorem d_E_searchMoves_20 : decode b_E_searchMoves 20 = .ok (.invokestatic 28, 3) := by decide +kernel
theorem d_E_searchMoves_23 : decode b_E_searchMoves 23 = .ok (.istore 6, 2) := by decide +kernel
theorem d_E_searchMoves_25 : decode b_E_searchMoves 25 = .ok (.iload 6, 2) := by decide +kernel
theorem d_E_searchMoves_27 : decode b_E_searchMoves 27 = .ok (.invokestatic 34, 3) := by decide +kernel
theorem d_E_searchMoves_30 : decode b_E_searchMoves 30 = .ok (.istore 7, 2) := by decide +kernel
theorem d_E_searchMoves_32 : decode b_E_searchMoves 32 = .ok (.iload 6, 2) := by decide +kernel
theorem d_E_searchMoves_34 : decode b_E_searchMoves 34 = .ok (.invokestatic 38, 3) := by decide +kernel
theorem d_E_searchMoves_37 : decode b_E_searchMoves 37 = .ok (.istore 8, 2) := by decide +kernel
theorem d_E_searchMoves_39 : decode b_E_searchMoves 39 = .ok (.iload 6, 2) := by decide +kernel
theorem d_E_searchMoves_41 : decode b_E_searchMoves 41 = .ok (.ifCond .eq 54, 3) := by decide +kernel
theorem d_E_searchMoves_44 : decode b_E_searchMoves 44 = .ok (.iload_n 2, 1) := by decide +kernel
theorem d_E_searchMoves_45 : decode b_E_searchMoves 45 = .ok (.iload 5, 2) := by decide +kernel
theorem d_E_searchMoves_47 : decode b_E_searchMoves 47 = .ok (.iload 4, 2) := by decide +kernel
theorem d_E_searchMoves_49 : decode b_E_searchMoves 49 = .ok (.invokestatic 41, 3) := by decide +kernel
theorem d_E_searchMoves_52 : decode b_E_searchMoves 52 = .ok (.ifCond .eq 43, 3) := by decide +kernel
theorem d_E_searchMoves_55 : decode b_E_searchMoves 55 = .ok (.aload_n 1, 1) := by decide +kernel
theorem d_E_searchMoves_56 : decode b_E_searchMoves 56 = .ok (.iload 7, 2) := by decide +kernel
theorem d_E_searchMoves_58 : decode b_E_searchMoves 58 = .ok (.iload 8, 2) := by decide +kernel
theorem d_E_searchMoves_60 : decode b_E_searchMoves 60 = .ok (.iload 5, 2) := by decide +kernel
theorem d_E_searchMoves_62 : decode b_E_searchMoves 62 = .ok (.iload 4, 2) := by decide +kernel
theorem d_E_searchMoves_64 : decode b_E_searchMoves 64 = .ok (.invokevirtual 45, 3) := by decide +kernel
theorem d_E_searchMoves_67 : decode b_E_searchMoves 67 = .ok (.ifCond .eq 28, 3) := by decide +kernel
theorem d_E_searchMoves_70 : decode b_E_searchMoves 70 = .ok (.aload_n 0, 1) := by decide +kernel
theorem d_E_searchMoves_71 : decode b_E_searchMoves 71 = .ok (.aload_n 1, 1) := by decide +kernel
theorem d_E_searchMoves_72 : decode b_E_searchMoves 72 = .ok (.iload_n 2, 1) := by decide +kernel
theorem d_E_searchMoves_73 : decode b_E_searchMoves 73 = .ok (.iload 7, 2) := by decide +kernel
theorem d_E_searchMoves_75 : decode b_E_searchMoves 75 = .ok (.iload 8, 2) := by decide +kernel
theorem d_E_searchMoves_77 : decode b_E_searchMoves 77 = .ok (.iload 5, 2) := by decide +kernel
theorem d_E_searchMoves_79 : decode b_E_searchMoves 79 = .ok (.iload 4, 2) := by decide +kernel
theorem d_E_searchMoves_81 : decode b_E_searchMoves 81 = .ok (.invokestatic 51, 3) := by decide +kernel
theorem d_E_searchMoves_84 : decode b_E_searchMoves 84 = .ok (.iload_n 3, 1) := by decide +kernel
theorem d_E_searchMoves_85 : decode b_E_searchMoves 85 = .ok (.iconst 1, 1) := by decide +kernel
theorem d_E_searchMoves_86 : decode b_E_searchMoves 86 = .ok (.iadd, 1) := by decide +kernel
theorem d_E_searchMoves_87 : decode b_E_searchMoves 87 = .ok (.invokevirtual 55, 3) := by decide +kernel
theorem d_E_searchMoves_90 : decode b_E_searchMoves 90 = .ok (.ifCond .eq 5, 3) := by decide +kernel
theorem d_E_searchMoves_93 : decode b_E_searchMoves 93 = .ok (.iconst 1, 1) := by decide +kernel
theorem d_E_searchMoves_94 : decode b_E_searchMoves 94 = .ok (.ireturn, 1) := by decide +kernel
theorem d_E_searchMoves_95 : decode b_E_searchMoves 95 = .ok (.iinc 5 1, 3) := by decide +kernel
theorem d_E_searchMoves_98 : decode b_E_searchMoves 98 = .ok (.goto (-87), 3) := by decide +kernel
theorem d_E_searchMoves_101 : decode b_E_searchMoves 101 = .ok (.iinc 4 (-1), 3) := by decide +kernel
theorem d_E_searchMoves_104 : decode b_E_searchMoves 104 = .ok (.goto (-101), 3) := by decide +kernel
theorem d_E_searchMoves_107 : decode b_E_searchMoves 107 = .ok (.iconst 0, 1) := by decide +kernel
theorem d_E_searchMoves_108 : decode b_E_searchMoves 108 = .ok (.ireturn, 1) := by decide +kernel
theorem d_B_init_0 : decode b_B_init 0 = .ok (.aload_n 0, 1) := by decide +kernel
theorem d_B_init_1 : decode b_B_init 1 = .ok (.invokespecial 1, 3) := by decide +kernel
theorem d_B_init_4 : decode b_B_init 4 = .ok (.aload_n 0, 1) := by decide +kernel
theorem d_B_init_5 : decode b_B_init 5 = .ok (.iconst 0, 1) := by decide +kernel
theorem d_B_init_6 : decode b_B_init 6 = .ok (.putfield 7, 3) := by decide +kernel
theorem d_B_init_9 : decode b_B_init 9 = .ok (.aload_n 0, 1) := by decide +kernel
theorem d_B_init_10 : decode b_B_init 10 = .ok (.iconst 0, 1) := by decide +kernel
theorem d_B_init_11 : decode b_B_init 11 = .ok (.putfield 13, 3) := by decide +kernel
theorem d_B_init_14 : decode b_B_init 14 = .ok (.return_, 1) := by decide +kernel
theorem d_U_init_0 : decode b_U_init 0 = .ok (.aload_n 0, 1) := by decide +kernel
theorem d_U_init_1 : decode b_U_init 1 = .ok (.invokespecial 3, 3) := by decide +kernel
theorem d_U_init_4 : decode b_U_init 4 = .ok (.aload_n 0, 1) := by decide +kernel
theorem d_U_init_5 : decode b_U_init 5 = .ok (.iconst 3, 1) := by decide +kernel
theorem d_U_init_6 : decode b_U_init 6 = .ok (.newarray .int, 2) := by decide +kernel
theorem d_U_init_8 : decode b_U_init 8 = .ok (.putfield 9, 3) := by decide +kernel
theorem d_U_init_11 : decode b_U_init 11 = .ok (.aload_n 0, 1) := by decide +kernel
theorem d_U_init_12 : decode b_U_init 12 = .ok (.iconst 3, 1) := by decide +kernel
theorem d_U_init_13 : decode b_U_init 13 = .ok (.newarray .int, 2) := by decide +kernel
theorem d_U_init_15 : decode b_U_init 15 = .ok (.putfield 15, 3) := by decide +kernel
theorem d_U_init_18 : decode b_U_init 18 = .ok (.aload_n 0, 1) := by decide +kernel
theorem d_U_init_19 : decode b_U_init 19 = .ok (.iconst 3, 1) := by decide +kernel
theorem d_U_init_20 : decode b_U_init 20 = .ok (.newarray .int, 2) := by decide +kernel
theorem d_U_init_22 : decode b_U_init 22 = .ok (.putfield 18, 3) := by decide +kernel
theorem d_U_init_25 : decode b_U_init 25 = .ok (.aload_n 0, 1) := by decide +kernel
theorem d_U_init_26 : decode b_U_init 26 = .ok (.iconst 0, 1) := by decide +kernel
theorem d_U_init_27 : decode b_U_init 27 = .ok (.putfield 21, 3) := by decide +kernel
theorem d_U_init_30 : decode b_U_init 30 = .ok (.return_, 1) := by decide +kernel
theorem d_U_append_0 : decode b_U_append 0 = .ok (.aload_n 0, 1) := by decide +kernel
theorem d_U_append_1 : decode b_U_append 1 = .ok (.getfield 21, 3) := by decide +kernel
theorem d_U_append_4 : decode b_U_append 4 = .ok (.iconst 3, 1) := by decide +kernel
theorem d_U_append_5 : decode b_U_append 5 = .ok (.if_icmp .ge 43, 3) := by decide +kernel
theorem d_U_append_8 : decode b_U_append 8 = .ok (.aload_n 0, 1) := by decide +kernel
theorem d_U_append_9 : decode b_U_append 9 = .ok (.getfield 9, 3) := by decide +kernel
theorem d_U_append_12 : decode b_U_append 12 = .ok (.aload_n 0, 1) := by decide +kernel
theorem d_U_append_13 : decode b_U_append 13 = .ok (.getfield 21, 3) := by decide +kernel
theorem d_U_append_16 : decode b_U_append 16 = .ok (.iload_n 1, 1) := by decide +kernel
theorem d_U_append_17 : decode b_U_append 17 = .ok (.iastore, 1) := by decide +kernel
theorem d_U_append_18 : decode b_U_append 18 = .ok (.aload_n 0, 1) := by decide +kernel
theorem d_U_append_19 : decode b_U_append 19 = .ok (.getfield 15, 3) := by decide +kernel
theorem d_U_append_22 : decode b_U_append 22 = .ok (.aload_n 0, 1) := by decide +kernel
theorem d_U_append_23 : decode b_U_append 23 = .ok (.getfield 21, 3) := by decide +kernel
theorem d_U_append_26 : decode b_U_append 26 = .ok (.iload_n 2, 1) := by decide +kernel
theorem d_U_append_27 : decode b_U_append 27 = .ok (.iastore, 1) := by decide +kernel
theorem d_U_append_28 : decode b_U_append 28 = .ok (.aload_n 0, 1) := by decide +kernel
theorem d_U_append_29 : decode b_U_append 29 = .ok (.getfield 18, 3) := by decide +kernel
theorem d_U_append_32 : decode b_U_append 32 = .ok (.aload_n 0, 1) := by decide +kernel
theorem d_U_append_33 : decode b_U_append 33 = .ok (.getfield 21, 3) := by decide +kernel
theorem d_U_append_36 : decode b_U_append 36 = .ok (.iload_n 3, 1) := by decide +kernel
theorem d_U_append_37 : decode b_U_append 37 = .ok (.iastore, 1) := by decide +kernel
theorem d_U_append_38 : decode b_U_append 38 = .ok (.aload_n 0, 1) := by decide +kernel
theorem d_U_append_39 : decode b_U_append 39 = .ok (.dup, 1) := by decide +kernel
theorem d_U_append_40 : decode b_U_append 40 = .ok (.getfield 21, 3) := by decide +kernel
theorem d_U_append_43 : decode b_U_append 43 = .ok (.iconst 1, 1) := by decide +kernel
theorem d_U_append_44 : decode b_U_append 44 = .ok (.iadd, 1) := by decide +kernel
theorem d_U_append_45 : decode b_U_append 45 = .ok (.putfield 21, 3) := by decide +kernel
theorem d_U_append_48 : decode b_U_append 48 = .ok (.return_, 1) := by decide +kernel
theorem d_U_maskAt_0 : decode b_U_maskAt 0 = .ok (.aload_n 0, 1) := by decide +kernel
theorem d_U_maskAt_1 : decode b_U_maskAt 1 = .ok (.iload_n 1, 1) := by decide +kernel
theorem d_U_maskAt_2 : decode b_U_maskAt 2 = .ok (.invokevirtual 25, 3) := by decide +kernel
theorem d_U_maskAt_5 : decode b_U_maskAt 5 = .ok (.ifCond .eq 12, 3) := by decide +kernel
theorem d_U_maskAt_8 : decode b_U_maskAt 8 = .ok (.aload_n 0, 1) := by decide +kernel
theorem d_U_maskAt_9 : decode b_U_maskAt 9 = .ok (.getfield 9, 3) := by decide +kernel
theorem d_U_maskAt_12 : decode b_U_maskAt 12 = .ok (.iload_n 1, 1) := by decide +kernel
theorem d_U_maskAt_13 : decode b_U_maskAt 13 = .ok (.iaload, 1) := by decide +kernel
theorem d_U_maskAt_14 : decode b_U_maskAt 14 = .ok (.goto 4, 3) := by decide +kernel
theorem d_U_maskAt_17 : decode b_U_maskAt 17 = .ok (.iconst 0, 1) := by decide +kernel
theorem d_U_maskAt_18 : decode b_U_maskAt 18 = .ok (.ireturn, 1) := by decide +kernel
theorem d_U_timeAt_0 : decode b_U_timeAt 0 = .ok (.aload_n 0, 1) := by decide +kernel
theorem d_U_timeAt_1 : decode b_U_timeAt 1 = .ok (.iload_n 1, 1) := by decide +kernel
theorem d_U_timeAt_2 : decode b_U_timeAt 2 = .ok (.invokevirtual 25, 3) := by decide +kernel
theorem d_U_timeAt_5 : decode b_U_timeAt 5 = .ok (.ifCond .eq 12, 3) := by decide +kernel
theorem d_U_timeAt_8 : decode b_U_timeAt 8 = .ok (.aload_n 0, 1) := by decide +kernel
theorem d_U_timeAt_9 : decode b_U_timeAt 9 = .ok (.getfield 15, 3) := by decide +kernel
theorem d_U_timeAt_12 : decode b_U_timeAt 12 = .ok (.iload_n 1, 1) := by decide +kernel
theorem d_U_timeAt_13 : decode b_U_timeAt 13 = .ok (.iaload, 1) := by decide +kernel
theorem d_U_timeAt_14 : decode b_U_timeAt 14 = .ok (.goto 4, 3) := by decide +kernel
theorem d_U_timeAt_17 : decode b_U_timeAt 17 = .ok (.iconst 0, 1) := by decide +kernel
theorem d_U_timeAt_18 : decode b_U_timeAt 18 = .ok (.ireturn, 1) := by decide +kernel
theorem d_U_limitAt_0 : decode b_U_limitAt 0 = .ok (.aload_n 0, 1) := by decide +kernel
theorem d_U_limitAt_1 : decode b_U_limitAt 1 = .ok (.iload_n 1, 1) := by decide +kernel
theorem d_U_limitAt_2 : decode b_U_limitAt 2 = .ok (.invokevirtual 25, 3) := by decide +kernel
theorem d_U_limitAt_5 : decode b_U_limitAt 5 = .ok (.ifCond .eq 12, 3) := by decide +kernel
theorem d_U_limitAt_8 : decode b_U_limitAt 8 = .ok (.aload_n 0, 1) := by decide +kernel
theorem d_U_limitAt_9 : decode b_U_limitAt 9 = .ok (.getfield 18, 3) := by decide +kernel
theorem d_U_limitAt_12 : decode b_U_limitAt 12 = .ok (.iload_n 1, 1) := by decide +kernel
theorem d_U_limitAt_13 : decode b_U_limitAt 13 = .ok (.iaload, 1) := by decide +kernel
theorem d_U_limitAt_14 : decode b_U_limitAt 14 = .ok (.goto 4, 3) := by decide +kernel
theorem d_U_limitAt_17 : decode b_U_limitAt 17 = .ok (.iconst 0, 1) := by decide +kernel
theorem d_U_limitAt_18 : decode b_U_limitAt 18 = .ok (.ireturn, 1) := by decide +kernel
theorem d_U_has_0 : decode b_U_has 0 = .ok (.iload_n 1, 1) := by decide +kernel
theorem d_U_has_1 : decode b_U_has 1 = .ok (.ifCond .lt 15, 3) := by decide +kernel
theorem d_U_has_4 : decode b_U_has 4 = .ok (.iload_n 1, 1) := by decide +kernel
theorem d_U_has_5 : decode b_U_has 5 = .ok (.aload_n 0, 1) := by decide +kernel
theorem d_U_has_6 : decode b_U_has 6 = .ok (.getfield 21, 3) := by decide +kernel
theorem d_U_has_9 : decode b_U_has 9 = .ok (.if_icmp .ge 7, 3) := by decide +kernel
theorem d_U_has_12 : decode b_U_has 12 = .ok (.iconst 1, 1) := by decide +kernel
theorem d_U_has_13 : decode b_U_has 13 = .ok (.goto 4, 3) := by decide +kernel
theorem d_U_has_16 : decode b_U_has 16 = .ok (.iconst 0, 1) := by decide +kernel
theorem d_U_has_17 : decode b_U_has 17 = .ok (.ireturn, 1) := by decide +kernel
theorem d_S_with_0 : decode b_S_with 0 = .ok (.iload_n 1, 1) := by decide +kernel
theorem d_S_with_1 : decode b_S_with 1 = .ok (.iconst 4, 1) := by decide +kernel
theorem d_S_with_2 : decode b_S_with 2 = .ok (.if_icmp .ne 8, 3) := by decide +kernel
theorem d_S_with_5 : decode b_S_with 5 = .ok (.bipush 8, 2) := by decide +kernel
theorem d_S_with_7 : decode b_S_with 7 = .ok (.goto 4, 3) := by decide +kernel
theorem d_S_with_10 : decode b_S_with 10 = .ok (.iconst 0, 1) := by decide +kernel
theorem d_S_with_11 : decode b_S_with 11 = .ok (.iload_n 2, 1) := by decide +kernel
theorem d_S_with_12 : decode b_S_with 12 = .ok (.iconst 2, 1) := by decide +kernel
theorem d_S_with_13 : decode b_S_with 13 = .ok (.ishl, 1) := by decide +kernel
theorem d_S_with_14 : decode b_S_with 14 = .ok (.ior, 1) := by decide +kernel
theorem d_S_with_15 : decode b_S_with 15 = .ok (.iload_n 3, 1) := by decide +kernel
theorem d_S_with_16 : decode b_S_with 16 = .ok (.ior, 1) := by decide +kernel
theorem d_S_with_17 : decode b_S_with 17 = .ok (.istore 4, 2) := by decide +kernel
theorem d_S_with_19 : decode b_S_with 19 = .ok (.iload_n 0, 1) := by decide +kernel
theorem d_S_with_20 : decode b_S_with 20 = .ok (.iload 4, 2) := by decide +kernel
theorem d_S_with_22 : decode b_S_with 22 = .ok (.iconst 3, 1) := by decide +kernel
theorem d_S_with_23 : decode b_S_with 23 = .ok (.iload_n 1, 1) := by decide +kernel
theorem d_S_with_24 : decode b_S_with 24 = .ok (.imul, 1) := by decide +kernel
theorem d_S_with_25 : decode b_S_with 25 = .ok (.ishl, 1) := by decide +kernel
theorem d_S_with_26 : decode b_S_with 26 = .ok (.ior, 1) := by decide +kernel
theorem d_S_with_27 : decode b_S_with 27 = .ok (.ireturn, 1) := by decide +kernel
theorem d_S_markAt_0 : decode b_S_markAt 0 = .ok (.iload_n 0, 1) := by decide +kernel
theorem d_S_markAt_1 : decode b_S_markAt 1 = .ok (.iconst 3, 1) := by decide +kernel
theorem d_S_markAt_2 : decode b_S_markAt 2 = .ok (.iload_n 1, 1) := by decide +kernel
theorem d_S_markAt_3 : decode b_S_markAt 3 = .ok (.imul, 1) := by decide +kernel
theorem d_S_markAt_4 : decode b_S_markAt 4 = .ok (.ishr, 1) := by decide +kernel
theorem d_S_markAt_5 : decode b_S_markAt 5 = .ok (.iload_n 1, 1) := by decide +kernel
theorem d_S_markAt_6 : decode b_S_markAt 6 = .ok (.iconst 4, 1) := by decide +kernel
theorem d_S_markAt_7 : decode b_S_markAt 7 = .ok (.if_icmp .ne 8, 3) := by decide +kernel
theorem d_S_markAt_10 : decode b_S_markAt 10 = .ok (.bipush 15, 2) := by decide +kernel
theorem d_S_markAt_12 : decode b_S_markAt 12 = .ok (.goto 5, 3) := by decide +kernel
theorem d_S_markAt_15 : decode b_S_markAt 15 = .ok (.bipush 7, 2) := by decide +kernel
theorem d_S_markAt_17 : decode b_S_markAt 17 = .ok (.iand, 1) := by decide +kernel
theorem d_S_markAt_18 : decode b_S_markAt 18 = .ok (.ireturn, 1) := by decide +kernel
theorem d_S_routeIn_0 : decode b_S_routeIn 0 = .ok (.iload_n 0, 1) := by decide +kernel
theorem d_S_routeIn_1 : decode b_S_routeIn 1 = .ok (.iconst 2, 1) := by decide +kernel
theorem d_S_routeIn_2 : decode b_S_routeIn 2 = .ok (.ishr, 1) := by decide +kernel
theorem d_S_routeIn_3 : decode b_S_routeIn 3 = .ok (.iconst 1, 1) := by decide +kernel
theorem d_S_routeIn_4 : decode b_S_routeIn 4 = .ok (.iand, 1) := by decide +kernel
theorem d_S_routeIn_5 : decode b_S_routeIn 5 = .ok (.ireturn, 1) := by decide +kernel
theorem d_S_stageIn_0 : decode b_S_stageIn 0 = .ok (.iload_n 0, 1) := by decide +kernel
theorem d_S_stageIn_1 : decode b_S_stageIn 1 = .ok (.iconst 3, 1) := by decide +kernel
theorem d_S_stageIn_2 : decode b_S_stageIn 2 = .ok (.iand, 1) := by decide +kernel
theorem d_S_stageIn_3 : decode b_S_stageIn 3 = .ok (.ireturn, 1) := by decide +kernel
theorem d_S_after_0 : decode b_S_after 0 = .ok (.iload_n 3, 1) := by decide +kernel
theorem d_S_after_1 : decode b_S_after 1 = .ok (.iconst 5, 1) := by decide +kernel
theorem d_S_after_2 : decode b_S_after 2 = .ok (.if_icmp .ne 7, 3) := by decide +kernel
theorem d_S_after_5 : decode b_S_after 5 = .ok (.iload_n 0, 1) := by decide +kernel
theorem d_S_after_6 : decode b_S_after 6 = .ok (.goto 14, 3) := by decide +kernel
theorem d_S_after_9 : decode b_S_after 9 = .ok (.iload_n 0, 1) := by decide +kernel
theorem d_S_after_10 : decode b_S_after 10 = .ok (.iload_n 0, 1) := by decide +kernel
theorem d_S_after_11 : decode b_S_after 11 = .ok (.iload_n 3, 1) := by decide +kernel
theorem d_S_after_12 : decode b_S_after 12 = .ok (.invokestatic 11, 3) := by decide +kernel
theorem d_S_after_15 : decode b_S_after 15 = .ok (.iconst 3, 1) := by decide +kernel
theorem d_S_after_16 : decode b_S_after 16 = .ok (.iload_n 3, 1) := by decide +kernel
theorem d_S_after_17 : decode b_S_after 17 = .ok (.imul, 1) := by decide +kernel
theorem d_S_after_18 : decode b_S_after 18 = .ok (.ishl, 1) := by decide +kernel
theorem d_S_after_19 : decode b_S_after 19 = .ok (.isub, 1) := by decide +kernel
theorem d_S_after_20 : decode b_S_after 20 = .ok (.istore 5, 2) := by decide +kernel
theorem d_S_after_22 : decode b_S_after 22 = .ok (.iload 4, 2) := by decide +kernel
theorem d_S_after_24 : decode b_S_after 24 = .ok (.iconst 5, 1) := by decide +kernel
theorem d_S_after_25 : decode b_S_after 25 = .ok (.if_icmp .ne 6, 3) := by decide +kernel
theorem d_S_after_28 : decode b_S_after 28 = .ok (.iload 5, 2) := by decide +kernel
theorem d_S_after_30 : decode b_S_after 30 = .ok (.ireturn, 1) := by decide +kernel
theorem d_S_after_31 : decode b_S_after 31 = .ok (.iload 5, 2) := by decide +kernel
theorem d_S_after_33 : decode b_S_after 33 = .ok (.iload 4, 2) := by decide +kernel
theorem d_S_after_35 : decode b_S_after 35 = .ok (.iload_n 1, 1) := by decide +kernel
theorem d_S_after_36 : decode b_S_after 36 = .ok (.iload 4, 2) := by decide +kernel
theorem d_S_after_38 : decode b_S_after 38 = .ok (.iconst 4, 1) := by decide +kernel
theorem d_S_after_39 : decode b_S_after 39 = .ok (.if_icmp .ge 9, 3) := by decide +kernel
theorem d_S_after_42 : decode b_S_after 42 = .ok (.iload_n 2, 1) := by decide +kernel
theorem d_S_after_43 : decode b_S_after 43 = .ok (.iconst 1, 1) := by decide +kernel
theorem d_S_after_44 : decode b_S_after 44 = .ok (.iadd, 1) := by decide +kernel
theorem d_S_after_45 : decode b_S_after 45 = .ok (.goto 4, 3) := by decide +kernel
theorem d_S_after_48 : decode b_S_after 48 = .ok (.iload_n 2, 1) := by decide +kernel
theorem d_S_after_49 : decode b_S_after 49 = .ok (.invokestatic 15, 3) := by decide +kernel
theorem d_S_after_52 : decode b_S_after 52 = .ok (.ireturn, 1) := by decide +kernel
theorem d_S_isFree_0 : decode b_S_isFree 0 = .ok (.iload_n 2, 1) := by decide +kernel
theorem d_S_isFree_1 : decode b_S_isFree 1 = .ok (.iconst 5, 1) := by decide +kernel
theorem d_S_isFree_2 : decode b_S_isFree 2 = .ok (.if_icmp .eq 16, 3) := by decide +kernel
theorem d_S_isFree_5 : decode b_S_isFree 5 = .ok (.iload_n 2, 1) := by decide +kernel
theorem d_S_isFree_6 : decode b_S_isFree 6 = .ok (.iload_n 1, 1) := by decide +kernel
theorem d_S_isFree_7 : decode b_S_isFree 7 = .ok (.if_icmp .eq 11, 3) := by decide +kernel
theorem d_S_isFree_10 : decode b_S_isFree 10 = .ok (.iload_n 0, 1) := by decide +kernel
theorem d_S_isFree_11 : decode b_S_isFree 11 = .ok (.iload_n 2, 1) := by decide +kernel
theorem d_S_isFree_12 : decode b_S_isFree 12 = .ok (.invokestatic 11, 3) := by decide +kernel
theorem d_S_isFree_15 : decode b_S_isFree 15 = .ok (.ifCond .ne 7, 3) := by decide +kernel
theorem d_S_isFree_18 : decode b_S_isFree 18 = .ok (.iconst 1, 1) := by decide +kernel
theorem d_S_isFree_19 : decode b_S_isFree 19 = .ok (.goto 4, 3) := by decide +kernel
theorem d_S_isFree_22 : decode b_S_isFree 22 = .ok (.iconst 0, 1) := by decide +kernel
theorem d_S_isFree_23 : decode b_S_isFree 23 = .ok (.ireturn, 1) := by decide +kernel
theorem d_W_init_0 : decode b_W_init 0 = .ok (.aload_n 0, 1) := by decide +kernel
theorem d_W_init_1 : decode b_W_init 1 = .ok (.invokespecial 3, 3) := by decide +kernel
theorem d_W_init_4 : decode b_W_init 4 = .ok (.aload_n 0, 1) := by decide +kernel
theorem d_W_init_5 : decode b_W_init 5 = .ok (.iconst 3, 1) := by decide +kernel
theorem d_W_init_6 : decode b_W_init 6 = .ok (.newarray .int, 2) := by decide +kernel
theorem d_W_init_8 : decode b_W_init 8 = .ok (.putfield 9, 3) := by decide +kernel
theorem d_W_init_11 : decode b_W_init 11 = .ok (.aload_n 0, 1) := by decide +kernel
theorem d_W_init_12 : decode b_W_init 12 = .ok (.iconst 3, 1) := by decide +kernel
theorem d_W_init_13 : decode b_W_init 13 = .ok (.newarray .int, 2) := by decide +kernel
theorem d_W_init_15 : decode b_W_init 15 = .ok (.putfield 15, 3) := by decide +kernel
theorem d_W_init_18 : decode b_W_init 18 = .ok (.aload_n 0, 1) := by decide +kernel
theorem d_W_init_19 : decode b_W_init 19 = .ok (.iconst 3, 1) := by decide +kernel
theorem d_W_init_20 : decode b_W_init 20 = .ok (.newarray .int, 2) := by decide +kernel
theorem d_W_init_22 : decode b_W_init 22 = .ok (.putfield 18, 3) := by decide +kernel
theorem d_W_init_25 : decode b_W_init 25 = .ok (.aload_n 0, 1) := by decide +kernel
theorem d_W_init_26 : decode b_W_init 26 = .ok (.iconst 5, 1) := by decide +kernel
theorem d_W_init_27 : decode b_W_init 27 = .ok (.putfield 21, 3) := by decide +kernel
theorem d_W_init_30 : decode b_W_init 30 = .ok (.aload_n 0, 1) := by decide +kernel
theorem d_W_init_31 : decode b_W_init 31 = .ok (.iconst 0, 1) := by decide +kernel
theorem d_W_init_32 : decode b_W_init 32 = .ok (.putfield 25, 3) := by decide +kernel
theorem d_W_init_35 : decode b_W_init 35 = .ok (.aload_n 0, 1) := by decide +kernel
theorem d_W_init_36 : decode b_W_init 36 = .ok (.iconst 0, 1) := by decide +kernel
theorem d_W_init_37 : decode b_W_init 37 = .ok (.putfield 28, 3) := by decide +kernel
theorem d_W_init_40 : decode b_W_init 40 = .ok (.aload_n 0, 1) := by decide +kernel
theorem d_W_init_41 : decode b_W_init 41 = .ok (.iconst 0, 1) := by decide +kernel
theorem d_W_init_42 : decode b_W_init 42 = .ok (.putfield 31, 3) := by decide +kernel
theorem d_W_init_45 : decode b_W_init 45 = .ok (.aload_n 0, 1) := by decide +kernel
theorem d_W_init_46 : decode b_W_init 46 = .ok (.iconst 0, 1) := by decide +kernel
theorem d_W_init_47 : decode b_W_init 47 = .ok (.putfield 34, 3) := by decide +kernel
theorem d_W_init_50 : decode b_W_init 50 = .ok (.aload_n 0, 1) := by decide +kernel
theorem d_W_init_51 : decode b_W_init 51 = .ok (.iload_n 1, 1) := by decide +kernel
theorem d_W_init_52 : decode b_W_init 52 = .ok (.putfield 38, 3) := by decide +kernel
theorem d_W_init_55 : decode b_W_init 55 = .ok (.aload_n 0, 1) := by decide +kernel
theorem d_W_init_56 : decode b_W_init 56 = .ok (.iload_n 2, 1) := by decide +kernel
theorem d_W_init_57 : decode b_W_init 57 = .ok (.putfield 41, 3) := by decide +kernel
theorem d_W_init_60 : decode b_W_init 60 = .ok (.return_, 1) := by decide +kernel
theorem d_W_hasBegun_0 : decode b_W_hasBegun 0 = .ok (.iload_n 1, 1) := by decide +kernel
theorem d_W_hasBegun_1 : decode b_W_hasBegun 1 = .ok (.iconst 0, 1) := by decide +kernel
theorem d_W_hasBegun_2 : decode b_W_hasBegun 2 = .ok (.aload_n 0, 1) := by decide +kernel
theorem d_W_hasBegun_3 : decode b_W_hasBegun 3 = .ok (.getfield 25, 3) := by decide +kernel
theorem d_W_hasBegun_6 : decode b_W_hasBegun 6 = .ok (.iconst 1, 1) := by decide +kernel
theorem d_W_hasBegun_7 : decode b_W_hasBegun 7 = .ok (.isub, 1) := by decide +kernel
theorem d_W_hasBegun_8 : decode b_W_hasBegun 8 = .ok (.invokestatic 44, 3) := by decide +kernel
theorem d_W_hasBegun_11 : decode b_W_hasBegun 11 = .ok (.ireturn, 1) := by decide +kernel
theorem d_W_arrive_0 : decode b_W_arrive 0 = .ok (.aload_n 0, 1) := by decide +kernel
theorem d_W_arrive_1 : decode b_W_arrive 1 = .ok (.iload_n 1, 1) := by decide +kernel
theorem d_W_arrive_2 : decode b_W_arrive 2 = .ok (.putfield 21, 3) := by decide +kernel
theorem d_W_arrive_5 : decode b_W_arrive 5 = .ok (.aload_n 0, 1) := by decide +kernel
theorem d_W_arrive_6 : decode b_W_arrive 6 = .ok (.iconst 0, 1) := by decide +kernel
theorem d_W_arrive_7 : decode b_W_arrive 7 = .ok (.putfield 31, 3) := by decide +kernel
theorem d_W_arrive_10 : decode b_W_arrive 10 = .ok (.aload_n 0, 1) := by decide +kernel
theorem d_W_arrive_11 : decode b_W_arrive 11 = .ok (.iload_n 1, 1) := by decide +kernel
theorem d_W_arrive_12 : decode b_W_arrive 12 = .ok (.iconst 5, 1) := by decide +kernel
theorem d_W_arrive_13 : decode b_W_arrive 13 = .ok (.if_icmp .ne 7, 3) := by decide +kernel
theorem d_W_arrive_16 : decode b_W_arrive 16 = .ok (.iconst 1, 1) := by decide +kernel
theorem d_W_arrive_17 : decode b_W_arrive 17 = .ok (.goto 4, 3) := by decide +kernel
theorem d_W_arrive_20 : decode b_W_arrive 20 = .ok (.iconst 0, 1) := by decide +kernel
theorem d_W_arrive_21 : decode b_W_arrive 21 = .ok (.putfield 41, 3) := by decide +kernel
theorem d_W_arrive_24 : decode b_W_arrive 24 = .ok (.return_, 1) := by decide +kernel
theorem d_W_begin_0 : decode b_W_begin 0 = .ok (.aload_n 0, 1) := by decide +kernel
theorem d_W_begin_1 : decode b_W_begin 1 = .ok (.getfield 25, 3) := by decide +kernel
theorem d_W_begin_4 : decode b_W_begin 4 = .ok (.iconst 3, 1) := by decide +kernel
theorem d_W_begin_5 : decode b_W_begin 5 = .ok (.if_icmp .ge 51, 3) := by decide +kernel
theorem d_W_begin_8 : decode b_W_begin 8 = .ok (.aload_n 0, 1) := by decide +kernel
theorem d_W_begin_9 : decode b_W_begin 9 = .ok (.getfield 9, 3) := by decide +kernel
theorem d_W_begin_12 : decode b_W_begin 12 = .ok (.aload_n 0, 1) := by decide +kernel
theorem d_W_begin_13 : decode b_W_begin 13 = .ok (.getfield 25, 3) := by decide +kernel
theorem d_W_begin_16 : decode b_W_begin 16 = .ok (.aload_n 0, 1) := by decide +kernel
theorem d_W_begin_17 : decode b_W_begin 17 = .ok (.getfield 21, 3) := by decide +kernel
theorem d_W_begin_20 : decode b_W_begin 20 = .ok (.iastore, 1) := by decide +kernel
theorem d_W_begin_21 : decode b_W_begin 21 = .ok (.aload_n 0, 1) := by decide +kernel
theorem d_W_begin_22 : decode b_W_begin 22 = .ok (.getfield 15, 3) := by decide +kernel
theorem d_W_begin_25 : decode b_W_begin 25 = .ok (.aload_n 0, 1) := by decide +kernel
theorem d_W_begin_26 : decode b_W_begin 26 = .ok (.getfield 25, 3) := by decide +kernel
theorem d_W_begin_29 : decode b_W_begin 29 = .ok (.iload_n 2, 1) := by decide +kernel
theorem d_W_begin_30 : decode b_W_begin 30 = .ok (.iastore, 1) := by decide +kernel
theorem d_W_begin_31 : decode b_W_begin 31 = .ok (.aload_n 0, 1) := by decide +kernel
theorem d_W_begin_32 : decode b_W_begin 32 = .ok (.getfield 18, 3) := by decide +kernel
theorem d_W_begin_35 : decode b_W_begin 35 = .ok (.aload_n 0, 1) := by decide +kernel
theorem d_W_begin_36 : decode b_W_begin 36 = .ok (.getfield 25, 3) := by decide +kernel
theorem d_W_begin_39 : decode b_W_begin 39 = .ok (.iconst (-1), 1) := by decide +kernel
theorem d_W_begin_40 : decode b_W_begin 40 = .ok (.iastore, 1) := by decide +kernel
theorem d_W_begin_41 : decode b_W_begin 41 = .ok (.aload_n 0, 1) := by decide +kernel
theorem d_W_begin_42 : decode b_W_begin 42 = .ok (.iload_n 1, 1) := by decide +kernel
theorem d_W_begin_43 : decode b_W_begin 43 = .ok (.putfield 28, 3) := by decide +kernel
theorem d_W_begin_46 : decode b_W_begin 46 = .ok (.aload_n 0, 1) := by decide +kernel
theorem d_W_begin_47 : decode b_W_begin 47 = .ok (.dup, 1) := by decide +kernel
theorem d_W_begin_48 : decode b_W_begin 48 = .ok (.getfield 25, 3) := by decide +kernel
theorem d_W_begin_51 : decode b_W_begin 51 = .ok (.iconst 1, 1) := by decide +kernel
theorem d_W_begin_52 : decode b_W_begin 52 = .ok (.iadd, 1) := by decide +kernel
theorem d_W_begin_53 : decode b_W_begin 53 = .ok (.putfield 25, 3) := by decide +kernel
theorem d_W_begin_56 : decode b_W_begin 56 = .ok (.return_, 1) := by decide +kernel
theorem d_W_spend_0 : decode b_W_spend 0 = .ok (.aload_n 0, 1) := by decide +kernel
theorem d_W_spend_1 : decode b_W_spend 1 = .ok (.getfield 28, 3) := by decide +kernel
theorem d_W_spend_4 : decode b_W_spend 4 = .ok (.iload_n 1, 1) := by decide +kernel
theorem d_W_spend_5 : decode b_W_spend 5 = .ok (.invokestatic 48, 3) := by decide +kernel
theorem d_W_spend_8 : decode b_W_spend 8 = .ok (.istore_n 3, 1) := by decide +kernel
theorem d_W_spend_9 : decode b_W_spend 9 = .ok (.iload_n 3, 1) := by decide +kernel
theorem d_W_spend_10 : decode b_W_spend 10 = .ok (.ifCond .le 32, 3) := by decide +kernel
theorem d_W_spend_13 : decode b_W_spend 13 = .ok (.iload_n 3, 1) := by decide +kernel
theorem d_W_spend_14 : decode b_W_spend 14 = .ok (.aload_n 0, 1) := by decide +kernel
theorem d_W_spend_15 : decode b_W_spend 15 = .ok (.getfield 28, 3) := by decide +kernel
theorem d_W_spend_18 : decode b_W_spend 18 = .ok (.if_icmp .ne 24, 3) := by decide +kernel
theorem d_W_spend_21 : decode b_W_spend 21 = .ok (.aload_n 0, 1) := by decide +kernel
theorem d_W_spend_22 : decode b_W_spend 22 = .ok (.getfield 25, 3) := by decide +kernel
theorem d_W_spend_25 : decode b_W_spend 25 = .ok (.ifCond .le 17, 3) := by decide +kernel
theorem d_W_spend_28 : decode b_W_spend 28 = .ok (.aload_n 0, 1) := by decide +kernel
theorem d_W_spend_29 : decode b_W_spend 29 = .ok (.getfield 18, 3) := by decide +kernel
theorem d_W_spend_32 : decode b_W_spend 32 = .ok (.aload_n 0, 1) := by decide +kernel
theorem d_W_spend_33 : decode b_W_spend 33 = .ok (.getfield 25, 3) := by decide +kernel
theorem d_W_spend_36 : decode b_W_spend 36 = .ok (.iconst 1, 1) := by decide +kernel
theorem d_W_spend_37 : decode b_W_spend 37 = .ok (.isub, 1) := by decide +kernel
theorem d_W_spend_38 : decode b_W_spend 38 = .ok (.iload_n 2, 1) := by decide +kernel
theorem d_W_spend_39 : decode b_W_spend 39 = .ok (.iload_n 3, 1) := by decide +kernel
theorem d_W_spend_40 : decode b_W_spend 40 = .ok (.iadd, 1) := by decide +kernel
theorem d_W_spend_41 : decode b_W_spend 41 = .ok (.iastore, 1) := by decide +kernel
theorem d_W_spend_42 : decode b_W_spend 42 = .ok (.aload_n 0, 1) := by decide +kernel
theorem d_W_spend_43 : decode b_W_spend 43 = .ok (.dup, 1) := by decide +kernel
theorem d_W_spend_44 : decode b_W_spend 44 = .ok (.getfield 28, 3) := by decide +kernel
theorem d_W_spend_47 : decode b_W_spend 47 = .ok (.iload_n 3, 1) := by decide +kernel
theorem d_W_spend_48 : decode b_W_spend 48 = .ok (.isub, 1) := by decide +kernel
theorem d_W_spend_49 : decode b_W_spend 49 = .ok (.putfield 28, 3) := by decide +kernel
theorem d_W_spend_52 : decode b_W_spend 52 = .ok (.aload_n 0, 1) := by decide +kernel
theorem d_W_spend_53 : decode b_W_spend 53 = .ok (.dup, 1) := by decide +kernel
theorem d_W_spend_54 : decode b_W_spend 54 = .ok (.getfield 31, 3) := by decide +kernel
theorem d_W_spend_57 : decode b_W_spend 57 = .ok (.iload_n 1, 1) := by decide +kernel
theorem d_W_spend_58 : decode b_W_spend 58 = .ok (.iload_n 3, 1) := by decide +kernel
theorem d_W_spend_59 : decode b_W_spend 59 = .ok (.isub, 1) := by decide +kernel
theorem d_W_spend_60 : decode b_W_spend 60 = .ok (.iadd, 1) := by decide +kernel
theorem d_W_spend_61 : decode b_W_spend 61 = .ok (.putfield 31, 3) := by decide +kernel
theorem d_W_spend_64 : decode b_W_spend 64 = .ok (.return_, 1) := by decide +kernel
theorem d_W_turnsLate_0 : decode b_W_turnsLate 0 = .ok (.aload_n 0, 1) := by decide +kernel
theorem d_W_turnsLate_1 : decode b_W_turnsLate 1 = .ok (.getfield 34, 3) := by decide +kernel
theorem d_W_turnsLate_4 : decode b_W_turnsLate 4 = .ok (.ifCond .ne 15, 3) := by decide +kernel
theorem d_W_turnsLate_7 : decode b_W_turnsLate 7 = .ok (.iload_n 1, 1) := by decide +kernel
theorem d_W_turnsLate_8 : decode b_W_turnsLate 8 = .ok (.ifCond .eq 11, 3) := by decide +kernel
theorem d_W_turnsLate_11 : decode b_W_turnsLate 11 = .ok (.aload_n 0, 1) := by decide +kernel
theorem d_W_turnsLate_12 : decode b_W_turnsLate 12 = .ok (.getfield 31, 3) := by decide +kernel
theorem d_W_turnsLate_15 : decode b_W_turnsLate 15 = .ok (.iload_n 1, 1) := by decide +kernel
theorem d_W_turnsLate_16 : decode b_W_turnsLate 16 = .ok (.if_icmp .gt 5, 3) := by decide +kernel
theorem d_W_turnsLate_19 : decode b_W_turnsLate 19 = .ok (.iconst 0, 1) := by decide +kernel
theorem d_W_turnsLate_20 : decode b_W_turnsLate 20 = .ok (.ireturn, 1) := by decide +kernel
theorem d_W_turnsLate_21 : decode b_W_turnsLate 21 = .ok (.aload_n 0, 1) := by decide +kernel
theorem d_W_turnsLate_22 : decode b_W_turnsLate 22 = .ok (.iconst 1, 1) := by decide +kernel
theorem d_W_turnsLate_23 : decode b_W_turnsLate 23 = .ok (.putfield 34, 3) := by decide +kernel
theorem d_W_turnsLate_26 : decode b_W_turnsLate 26 = .ok (.iconst 1, 1) := by decide +kernel
theorem d_W_turnsLate_27 : decode b_W_turnsLate 27 = .ok (.ireturn, 1) := by decide +kernel
theorem d_Y_init_0 : decode b_Y_init 0 = .ok (.aload_n 0, 1) := by decide +kernel
theorem d_Y_init_1 : decode b_Y_init 1 = .ok (.invokespecial 3, 3) := by decide +kernel
theorem d_Y_init_4 : decode b_Y_init 4 = .ok (.aload_n 0, 1) := by decide +kernel
theorem d_Y_init_5 : decode b_Y_init 5 = .ok (.iconst 2, 1) := by decide +kernel
theorem d_Y_init_6 : decode b_Y_init 6 = .ok (.anewarray 9, 3) := by decide +kernel
theorem d_Y_init_9 : decode b_Y_init 9 = .ok (.dup, 1) := by decide +kernel
theorem d_Y_init_10 : decode b_Y_init 10 = .ok (.iconst 0, 1) := by decide +kernel
theorem d_Y_init_11 : decode b_Y_init 11 = .ok (.new 9, 3) := by decide +kernel
theorem d_Y_init_14 : decode b_Y_init 14 = .ok (.dup, 1) := by decide +kernel
theorem d_Y_init_15 : decode b_Y_init 15 = .ok (.invokespecial 11, 3) := by decide +kernel
theorem d_Y_init_18 : decode b_Y_init 18 = .ok (.aastore, 1) := by decide +kernel
theorem d_Y_init_19 : decode b_Y_init 19 = .ok (.dup, 1) := by decide +kernel
theorem d_Y_init_20 : decode b_Y_init 20 = .ok (.iconst 1, 1) := by decide +kernel
theorem d_Y_init_21 : decode b_Y_init 21 = .ok (.new 9, 3) := by decide +kernel
theorem d_Y_init_24 : decode b_Y_init 24 = .ok (.dup, 1) := by decide +kernel
theorem d_Y_init_25 : decode b_Y_init 25 = .ok (.invokespecial 11, 3) := by decide +kernel
theorem d_Y_init_28 : decode b_Y_init 28 = .ok (.aastore, 1) := by decide +kernel
theorem d_Y_init_29 : decode b_Y_init 29 = .ok (.putfield 12, 3) := by decide +kernel
theorem d_Y_init_32 : decode b_Y_init 32 = .ok (.aload_n 0, 1) := by decide +kernel
theorem d_Y_init_33 : decode b_Y_init 33 = .ok (.iconst 0, 1) := by decide +kernel
theorem d_Y_init_34 : decode b_Y_init 34 = .ok (.putfield 18, 3) := by decide +kernel
theorem d_Y_init_37 : decode b_Y_init 37 = .ok (.return_, 1) := by decide +kernel
theorem d_Y_isBack_0 : decode b_Y_isBack 0 = .ok (.iload_n 0, 1) := by decide +kernel
theorem d_Y_isBack_1 : decode b_Y_isBack 1 = .ok (.iconst 2, 1) := by decide +kernel
theorem d_Y_isBack_2 : decode b_Y_isBack 2 = .ok (.if_icmp .eq 8, 3) := by decide +kernel
theorem d_Y_isBack_5 : decode b_Y_isBack 5 = .ok (.iload_n 0, 1) := by decide +kernel
theorem d_Y_isBack_6 : decode b_Y_isBack 6 = .ok (.iconst 3, 1) := by decide +kernel
theorem d_Y_isBack_7 : decode b_Y_isBack 7 = .ok (.if_icmp .ne 7, 3) := by decide +kernel
theorem d_Y_isBack_10 : decode b_Y_isBack 10 = .ok (.iconst 1, 1) := by decide +kernel
theorem d_Y_isBack_11 : decode b_Y_isBack 11 = .ok (.goto 4, 3) := by decide +kernel
theorem d_Y_isBack_14 : decode b_Y_isBack 14 = .ok (.iconst 0, 1) := by decide +kernel
theorem d_Y_isBack_15 : decode b_Y_isBack 15 = .ok (.ireturn, 1) := by decide +kernel
theorem d_Y_routeOf_0 : decode b_Y_routeOf 0 = .ok (.iload_n 1, 1) := by decide +kernel
theorem d_Y_routeOf_1 : decode b_Y_routeOf 1 = .ok (.iconst 0, 1) := by decide +kernel
theorem d_Y_routeOf_2 : decode b_Y_routeOf 2 = .ok (.iconst 1, 1) := by decide +kernel
theorem d_Y_routeOf_3 : decode b_Y_routeOf 3 = .ok (.invokestatic 22, 3) := by decide +kernel
theorem d_Y_routeOf_6 : decode b_Y_routeOf 6 = .ok (.ifCond .eq 12, 3) := by decide +kernel
theorem d_Y_routeOf_9 : decode b_Y_routeOf 9 = .ok (.aload_n 0, 1) := by decide +kernel
theorem d_Y_routeOf_10 : decode b_Y_routeOf 10 = .ok (.getfield 12, 3) := by decide +kernel
theorem d_Y_routeOf_13 : decode b_Y_routeOf 13 = .ok (.iload_n 1, 1) := by decide +kernel
theorem d_Y_routeOf_14 : decode b_Y_routeOf 14 = .ok (.aaload, 1) := by decide +kernel
theorem d_Y_routeOf_15 : decode b_Y_routeOf 15 = .ok (.goto 4, 3) := by decide +kernel
theorem d_Y_routeOf_18 : decode b_Y_routeOf 18 = .ok (.aconst_null, 1) := by decide +kernel
theorem d_Y_routeOf_19 : decode b_Y_routeOf 19 = .ok (.areturn, 1) := by decide +kernel
theorem d_Y_isDown_0 : decode b_Y_isDown 0 = .ok (.aload_n 0, 1) := by decide +kernel
theorem d_Y_isDown_1 : decode b_Y_isDown 1 = .ok (.getfield 18, 3) := by decide +kernel
theorem d_Y_isDown_4 : decode b_Y_isDown 4 = .ok (.iconst 1, 1) := by decide +kernel
theorem d_Y_isDown_5 : decode b_Y_isDown 5 = .ok (.iload_n 1, 1) := by decide +kernel
theorem d_Y_isDown_6 : decode b_Y_isDown 6 = .ok (.ishl, 1) := by decide +kernel
theorem d_Y_isDown_7 : decode b_Y_isDown 7 = .ok (.iand, 1) := by decide +kernel
theorem d_Y_isDown_8 : decode b_Y_isDown 8 = .ok (.ifCond .eq 7, 3) := by decide +kernel
theorem d_Y_isDown_11 : decode b_Y_isDown 11 = .ok (.iconst 1, 1) := by decide +kernel
theorem d_Y_isDown_12 : decode b_Y_isDown 12 = .ok (.goto 4, 3) := by decide +kernel
theorem d_Y_isDown_15 : decode b_Y_isDown 15 = .ok (.iconst 0, 1) := by decide +kernel
theorem d_Y_isDown_16 : decode b_Y_isDown 16 = .ok (.ireturn, 1) := by decide +kernel
theorem d_Y_turn_0 : decode b_Y_turn 0 = .ok (.aload_n 0, 1) := by decide +kernel
theorem d_Y_turn_1 : decode b_Y_turn 1 = .ok (.dup, 1) := by decide +kernel
theorem d_Y_turn_2 : decode b_Y_turn 2 = .ok (.getfield 18, 3) := by decide +kernel
theorem d_Y_turn_5 : decode b_Y_turn 5 = .ok (.iconst 1, 1) := by decide +kernel
theorem d_Y_turn_6 : decode b_Y_turn 6 = .ok (.iload_n 1, 1) := by decide +kernel
theorem d_Y_turn_7 : decode b_Y_turn 7 = .ok (.ishl, 1) := by decide +kernel
theorem d_Y_turn_8 : decode b_Y_turn 8 = .ok (.ixor, 1) := by decide +kernel
theorem d_Y_turn_9 : decode b_Y_turn 9 = .ok (.putfield 18, 3) := by decide +kernel
theorem d_Y_turn_12 : decode b_Y_turn 12 = .ok (.return_, 1) := by decide +kernel
theorem d_Y_leads_0 : decode b_Y_leads 0 = .ok (.aload_n 0, 1) := by decide +kernel
theorem d_Y_leads_1 : decode b_Y_leads 1 = .ok (.iload_n 1, 1) := by decide +kernel
theorem d_Y_leads_2 : decode b_Y_leads 2 = .ok (.invokevirtual 26, 3) := by decide +kernel
theorem d_Y_leads_5 : decode b_Y_leads 5 = .ok (.astore 5, 2) := by decide +kernel
theorem d_Y_leads_7 : decode b_Y_leads 7 = .ok (.aload 5, 2) := by decide +kernel
theorem d_Y_leads_9 : decode b_Y_leads 9 = .ok (.ifnull 29, 3) := by decide +kernel
theorem d_Y_leads_12 : decode b_Y_leads 12 = .ok (.aload_n 0, 1) := by decide +kernel
theorem d_Y_leads_13 : decode b_Y_leads 13 = .ok (.iload_n 3, 1) := by decide +kernel
theorem d_Y_leads_14 : decode b_Y_leads 14 = .ok (.invokevirtual 30, 3) := by decide +kernel
theorem d_Y_leads_17 : decode b_Y_leads 17 = .ok (.ifCond .ne 21, 3) := by decide +kernel
theorem d_Y_leads_20 : decode b_Y_leads 20 = .ok (.aload_n 0, 1) := by decide +kernel
theorem d_Y_leads_21 : decode b_Y_leads 21 = .ok (.iload 4, 2) := by decide +kernel
theorem d_Y_leads_23 : decode b_Y_leads 23 = .ok (.invokevirtual 30, 3) := by decide +kernel
theorem d_Y_leads_26 : decode b_Y_leads 26 = .ok (.ifCond .ne 12, 3) := by decide +kernel
theorem d_Y_leads_29 : decode b_Y_leads 29 = .ok (.iload_n 3, 1) := by decide +kernel
theorem d_Y_leads_30 : decode b_Y_leads 30 = .ok (.iload 4, 2) := by decide +kernel
theorem d_Y_leads_32 : decode b_Y_leads 32 = .ok (.invokestatic 34, 3) := by decide +kernel
theorem d_Y_leads_35 : decode b_Y_leads 35 = .ok (.ifCond .ne 5, 3) := by decide +kernel
theorem d_Y_leads_38 : decode b_Y_leads 38 = .ok (.iconst 0, 1) := by decide +kernel
theorem d_Y_leads_39 : decode b_Y_leads 39 = .ok (.ireturn, 1) := by decide +kernel
theorem d_Y_leads_40 : decode b_Y_leads 40 = .ok (.aload 5, 2) := by decide +kernel
theorem d_Y_leads_42 : decode b_Y_leads 42 = .ok (.iload_n 2, 1) := by decide +kernel
theorem d_Y_leads_43 : decode b_Y_leads 43 = .ok (.invokevirtual 38, 3) := by decide +kernel
theorem d_Y_leads_46 : decode b_Y_leads 46 = .ok (.istore 6, 2) := by decide +kernel
theorem d_Y_leads_48 : decode b_Y_leads 48 = .ok (.iload 6, 2) := by decide +kernel
theorem d_Y_leads_50 : decode b_Y_leads 50 = .ok (.ifCond .ne 10, 3) := by decide +kernel
theorem d_Y_leads_53 : decode b_Y_leads 53 = .ok (.iload_n 3, 1) := by decide +kernel
theorem d_Y_leads_54 : decode b_Y_leads 54 = .ok (.iload 4, 2) := by decide +kernel
theorem d_Y_leads_56 : decode b_Y_leads 56 = .ok (.invokestatic 42, 3) := by decide +kernel
theorem d_Y_leads_59 : decode b_Y_leads 59 = .ok (.ireturn, 1) := by decide +kernel
theorem d_Y_leads_60 : decode b_Y_leads 60 = .ok (.iload 4, 2) := by decide +kernel
theorem d_Y_leads_62 : decode b_Y_leads 62 = .ok (.iconst 4, 1) := by decide +kernel
theorem d_Y_leads_63 : decode b_Y_leads 63 = .ok (.if_icmp .ge 19, 3) := by decide +kernel
theorem d_Y_leads_66 : decode b_Y_leads 66 = .ok (.iload 6, 2) := by decide +kernel
theorem d_Y_leads_68 : decode b_Y_leads 68 = .ok (.iconst 1, 1) := by decide +kernel
theorem d_Y_leads_69 : decode b_Y_leads 69 = .ok (.iload 4, 2) := by decide +kernel
theorem d_Y_leads_71 : decode b_Y_leads 71 = .ok (.ishl, 1) := by decide +kernel
theorem d_Y_leads_72 : decode b_Y_leads 72 = .ok (.iand, 1) := by decide +kernel
theorem d_Y_leads_73 : decode b_Y_leads 73 = .ok (.ifCond .eq 7, 3) := by decide +kernel
theorem d_Y_leads_76 : decode b_Y_leads 76 = .ok (.iconst 1, 1) := by decide +kernel
theorem d_Y_leads_77 : decode b_Y_leads 77 = .ok (.goto 4, 3) := by decide +kernel
theorem d_Y_leads_80 : decode b_Y_leads 80 = .ok (.iconst 0, 1) := by decide +kernel
theorem d_Y_leads_81 : decode b_Y_leads 81 = .ok (.ireturn, 1) := by decide +kernel
theorem d_Y_leads_82 : decode b_Y_leads 82 = .ok (.iload 4, 2) := by decide +kernel
theorem d_Y_leads_84 : decode b_Y_leads 84 = .ok (.iconst 4, 1) := by decide +kernel
theorem d_Y_leads_85 : decode b_Y_leads 85 = .ok (.if_icmp .ne 17, 3) := by decide +kernel
theorem d_Y_leads_88 : decode b_Y_leads 88 = .ok (.iload 6, 2) := by decide +kernel
theorem d_Y_leads_90 : decode b_Y_leads 90 = .ok (.iload_n 3, 1) := by decide +kernel
theorem d_Y_leads_91 : decode b_Y_leads 91 = .ok (.invokestatic 45, 3) := by decide +kernel
theorem d_Y_leads_94 : decode b_Y_leads 94 = .ok (.iand, 1) := by decide +kernel
theorem d_Y_leads_95 : decode b_Y_leads 95 = .ok (.ifCond .eq 7, 3) := by decide +kernel
theorem d_Y_leads_98 : decode b_Y_leads 98 = .ok (.iconst 1, 1) := by decide +kernel
theorem d_Y_leads_99 : decode b_Y_leads 99 = .ok (.goto 4, 3) := by decide +kernel
theorem d_Y_leads_102 : decode b_Y_leads 102 = .ok (.iconst 0, 1) := by decide +kernel
theorem d_Y_leads_103 : decode b_Y_leads 103 = .ok (.ireturn, 1) := by decide +kernel
theorem d_Y_isReach_0 : decode b_Y_isReach 0 = .ok (.iconst 1, 1) := by decide +kernel
theorem d_Y_isReach_1 : decode b_Y_isReach 1 = .ok (.iload_n 0, 1) := by decide +kernel
theorem d_Y_isReach_2 : decode b_Y_isReach 2 = .ok (.ishl, 1) := by decide +kernel
theorem d_Y_isReach_3 : decode b_Y_isReach 3 = .ok (.iconst 1, 1) := by decide +kernel
theorem d_Y_isReach_4 : decode b_Y_isReach 4 = .ok (.iload_n 1, 1) := by decide +kernel
theorem d_Y_isReach_5 : decode b_Y_isReach 5 = .ok (.ishl, 1) := by decide +kernel
theorem d_Y_isReach_6 : decode b_Y_isReach 6 = .ok (.ior, 1) := by decide +kernel
theorem d_Y_isReach_7 : decode b_Y_isReach 7 = .ok (.istore_n 2, 1) := by decide +kernel
theorem d_Y_isReach_8 : decode b_Y_isReach 8 = .ok (.bipush 51, 2) := by decide +kernel
theorem d_Y_isReach_10 : decode b_Y_isReach 10 = .ok (.iload_n 2, 1) := by decide +kernel
theorem d_Y_isReach_11 : decode b_Y_isReach 11 = .ok (.iand, 1) := by decide +kernel
theorem d_Y_isReach_12 : decode b_Y_isReach 12 = .ok (.iload_n 2, 1) := by decide +kernel
theorem d_Y_isReach_13 : decode b_Y_isReach 13 = .ok (.if_icmp .eq 11, 3) := by decide +kernel
theorem d_Y_isReach_16 : decode b_Y_isReach 16 = .ok (.bipush 28, 2) := by decide +kernel
theorem d_Y_isReach_18 : decode b_Y_isReach 18 = .ok (.iload_n 2, 1) := by decide +kernel
theorem d_Y_isReach_19 : decode b_Y_isReach 19 = .ok (.iand, 1) := by decide +kernel
theorem d_Y_isReach_20 : decode b_Y_isReach 20 = .ok (.iload_n 2, 1) := by decide +kernel
theorem d_Y_isReach_21 : decode b_Y_isReach 21 = .ok (.if_icmp .ne 7, 3) := by decide +kernel
theorem d_Y_isReach_24 : decode b_Y_isReach 24 = .ok (.iconst 1, 1) := by decide +kernel
theorem d_Y_isReach_25 : decode b_Y_isReach 25 = .ok (.goto 4, 3) := by decide +kernel
theorem d_Y_isReach_28 : decode b_Y_isReach 28 = .ok (.iconst 0, 1) := by decide +kernel
theorem d_Y_isReach_29 : decode b_Y_isReach 29 = .ok (.ireturn, 1) := by decide +kernel
theorem d_Y_isHomeward_0 : decode b_Y_isHomeward 0 = .ok (.iload_n 1, 1) := by decide +kernel
theorem d_Y_isHomeward_1 : decode b_Y_isHomeward 1 = .ok (.iconst 5, 1) := by decide +kernel
theorem d_Y_isHomeward_2 : decode b_Y_isHomeward 2 = .ok (.if_icmp .ne 16, 3) := by decide +kernel
theorem d_Y_isHomeward_5 : decode b_Y_isHomeward 5 = .ok (.iload_n 0, 1) := by decide +kernel
theorem d_Y_isHomeward_6 : decode b_Y_isHomeward 6 = .ok (.iconst 5, 1) := by decide +kernel
theorem d_Y_isHomeward_7 : decode b_Y_isHomeward 7 = .ok (.if_icmp .eq 7, 3) := by decide +kernel
theorem d_Y_isHomeward_10 : decode b_Y_isHomeward 10 = .ok (.iconst 1, 1) := by decide +kernel
theorem d_Y_isHomeward_11 : decode b_Y_isHomeward 11 = .ok (.goto 24, 3) := by decide +kernel
theorem d_Y_isHomeward_14 : decode b_Y_isHomeward 14 = .ok (.iconst 0, 1) := by decide +kernel
theorem d_Y_isHomeward_15 : decode b_Y_isHomeward 15 = .ok (.goto 20, 3) := by decide +kernel
theorem d_Y_isHomeward_18 : decode b_Y_isHomeward 18 = .ok (.iload_n 1, 1) := by decide +kernel
theorem d_Y_isHomeward_19 : decode b_Y_isHomeward 19 = .ok (.iconst 4, 1) := by decide +kernel
theorem d_Y_isHomeward_20 : decode b_Y_isHomeward 20 = .ok (.if_icmp .ne 14, 3) := by decide +kernel
theorem d_Y_isHomeward_23 : decode b_Y_isHomeward 23 = .ok (.iload_n 0, 1) := by decide +kernel
theorem d_Y_isHomeward_24 : decode b_Y_isHomeward 24 = .ok (.invokestatic 48, 3) := by decide +kernel
theorem d_Y_isHomeward_27 : decode b_Y_isHomeward 27 = .ok (.ifCond .eq 7, 3) := by decide +kernel
theorem d_Y_isHomeward_30 : decode b_Y_isHomeward 30 = .ok (.iconst 1, 1) := by decide +kernel
theorem d_Y_isHomeward_31 : decode b_Y_isHomeward 31 = .ok (.goto 4, 3) := by decide +kernel
theorem d_Y_isHomeward_34 : decode b_Y_isHomeward 34 = .ok (.iconst 0, 1) := by decide +kernel
theorem d_Y_isHomeward_35 : decode b_Y_isHomeward 35 = .ok (.ireturn, 1) := by decide +kernel
theorem d_Y_beyond_0 : decode b_Y_beyond 0 = .ok (.iload_n 0, 1) := by decide +kernel
theorem d_Y_beyond_1 : decode b_Y_beyond 1 = .ok (.iconst 4, 1) := by decide +kernel
theorem d_Y_beyond_2 : decode b_Y_beyond 2 = .ok (.if_icmp .ne 5, 3) := by decide +kernel
theorem d_Y_beyond_5 : decode b_Y_beyond 5 = .ok (.iconst 0, 1) := by decide +kernel
theorem d_Y_beyond_6 : decode b_Y_beyond 6 = .ok (.ireturn, 1) := by decide +kernel
theorem d_Y_beyond_7 : decode b_Y_beyond 7 = .ok (.iload_n 0, 1) := by decide +kernel
theorem d_Y_beyond_8 : decode b_Y_beyond 8 = .ok (.invokestatic 48, 3) := by decide +kernel
theorem d_Y_beyond_11 : decode b_Y_beyond 11 = .ok (.ifCond .eq 7, 3) := by decide +kernel
theorem d_Y_beyond_14 : decode b_Y_beyond 14 = .ok (.iconst 3, 1) := by decide +kernel
theorem d_Y_beyond_15 : decode b_Y_beyond 15 = .ok (.goto 5, 3) := by decide +kernel
theorem d_Y_beyond_18 : decode b_Y_beyond 18 = .ok (.bipush 12, 2) := by decide +kernel
theorem d_Y_beyond_20 : decode b_Y_beyond 20 = .ok (.ireturn, 1) := by decide +kernel
theorem d_J_fill_0 : decode b_J_fill 0 = .ok (.iconst 0, 1) := by decide +kernel
theorem d_J_fill_1 : decode b_J_fill 1 = .ok (.istore_n 3, 1) := by decide +kernel
theorem d_J_fill_2 : decode b_J_fill 2 = .ok (.aload_n 0, 1) := by decide +kernel
theorem d_J_fill_3 : decode b_J_fill 3 = .ok (.arraylength, 1) := by decide +kernel
theorem d_J_fill_4 : decode b_J_fill 4 = .ok (.istore 4, 2) := by decide +kernel
theorem d_J_fill_6 : decode b_J_fill 6 = .ok (.iload_n 3, 1) := by decide +kernel
theorem d_J_fill_7 : decode b_J_fill 7 = .ok (.iload 4, 2) := by decide +kernel
theorem d_J_fill_9 : decode b_J_fill 9 = .ok (.if_icmp .ge 13, 3) := by decide +kernel
theorem d_J_fill_12 : decode b_J_fill 12 = .ok (.aload_n 0, 1) := by decide +kernel
theorem d_J_fill_13 : decode b_J_fill 13 = .ok (.iload_n 3, 1) := by decide +kernel
theorem d_J_fill_14 : decode b_J_fill 14 = .ok (.lload_n 1, 1) := by decide +kernel
theorem d_J_fill_15 : decode b_J_fill 15 = .ok (.lastore, 1) := by decide +kernel
theorem d_J_fill_16 : decode b_J_fill 16 = .ok (.iinc 3 1, 3) := by decide +kernel
theorem d_J_fill_19 : decode b_J_fill 19 = .ok (.goto (-13), 3) := by decide +kernel
theorem d_J_fill_22 : decode b_J_fill 22 = .ok (.return_, 1) := by decide +kernel
