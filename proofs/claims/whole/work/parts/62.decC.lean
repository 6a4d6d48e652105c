theorem d_M_init_0 : decode b_M_init 0 = .ok (.aload_n 0, 1) := by decide +kernel
theorem d_M_init_1 : decode b_M_init 1 = .ok (.invokespecial 1, 3) := by decide +kernel
theorem d_M_init_4 : decode b_M_init 4 = .ok (.aload_n 0, 1) := by decide +kernel
theorem d_M_init_5 : decode b_M_init 5 = .ok (.iconst 2, 1) := by decide +kernel
theorem d_M_init_6 : decode b_M_init 6 = .ok (.newarray .int, 2) := by decide +kernel
theorem d_M_init_8 : decode b_M_init 8 = .ok (.putfield 7, 3) := by decide +kernel
theorem d_M_init_11 : decode b_M_init 11 = .ok (.aload_n 0, 1) := by decide +kernel
theorem d_M_init_12 : decode b_M_init 12 = .ok (.bipush 6, 2) := by decide +kernel
theorem d_M_init_14 : decode b_M_init 14 = .ok (.newarray .int, 2) := by decide +kernel
theorem d_M_init_16 : decode b_M_init 16 = .ok (.putfield 13, 3) := by decide +kernel
theorem d_M_init_19 : decode b_M_init 19 = .ok (.aload_n 0, 1) := by decide +kernel
theorem d_M_init_20 : decode b_M_init 20 = .ok (.bipush 6, 2) := by decide +kernel
theorem d_M_init_22 : decode b_M_init 22 = .ok (.newarray .int, 2) := by decide +kernel
theorem d_M_init_24 : decode b_M_init 24 = .ok (.putfield 16, 3) := by decide +kernel
theorem d_M_init_27 : decode b_M_init 27 = .ok (.aload_n 0, 1) := by decide +kernel
theorem d_M_init_28 : decode b_M_init 28 = .ok (.bipush 6, 2) := by decide +kernel
theorem d_M_init_30 : decode b_M_init 30 = .ok (.newarray .int, 2) := by decide +kernel
theorem d_M_init_32 : decode b_M_init 32 = .ok (.putfield 19, 3) := by decide +kernel
theorem d_M_init_35 : decode b_M_init 35 = .ok (.aload_n 0, 1) := by decide +kernel
theorem d_M_init_36 : decode b_M_init 36 = .ok (.bipush 25, 2) := by decide +kernel
theorem d_M_init_38 : decode b_M_init 38 = .ok (.newarray .int, 2) := by decide +kernel
theorem d_M_init_40 : decode b_M_init 40 = .ok (.putfield 22, 3) := by decide +kernel
theorem d_M_init_43 : decode b_M_init 43 = .ok (.aload_n 0, 1) := by decide +kernel
theorem d_M_init_44 : decode b_M_init 44 = .ok (.bipush 25, 2) := by decide +kernel
theorem d_M_init_46 : decode b_M_init 46 = .ok (.newarray .int, 2) := by decide +kernel
theorem d_M_init_48 : decode b_M_init 48 = .ok (.putfield 25, 3) := by decide +kernel
theorem d_M_init_51 : decode b_M_init 51 = .ok (.aload_n 0, 1) := by decide +kernel
theorem d_M_init_52 : decode b_M_init 52 = .ok (.bipush 25, 2) := by decide +kernel
theorem d_M_init_54 : decode b_M_init 54 = .ok (.newarray .int, 2) := by decide +kernel
theorem d_M_init_56 : decode b_M_init 56 = .ok (.putfield 28, 3) := by decide +kernel
theorem d_M_init_59 : decode b_M_init 59 = .ok (.aload_n 0, 1) := by decide +kernel
theorem d_M_init_60 : decode b_M_init 60 = .ok (.bipush 25, 2) := by decide +kernel
theorem d_M_init_62 : decode b_M_init 62 = .ok (.newarray .int, 2) := by decide +kernel
theorem d_M_init_64 : decode b_M_init 64 = .ok (.putfield 31, 3) := by decide +kernel
theorem d_M_init_67 : decode b_M_init 67 = .ok (.aload_n 0, 1) := by decide +kernel
theorem d_M_init_68 : decode b_M_init 68 = .ok (.bipush 25, 2) := by decide +kernel
theorem d_M_init_70 : decode b_M_init 70 = .ok (.newarray .int, 2) := by decide +kernel
theorem d_M_init_72 : decode b_M_init 72 = .ok (.putfield 34, 3) := by decide +kernel
theorem d_M_init_75 : decode b_M_init 75 = .ok (.aload_n 0, 1) := by decide +kernel
theorem d_M_init_76 : decode b_M_init 76 = .ok (.bipush 25, 2) := by decide +kernel
theorem d_M_init_78 : decode b_M_init 78 = .ok (.newarray .boolean, 2) := by decide +kernel
theorem d_M_init_80 : decode b_M_init 80 = .ok (.putfield 37, 3) := by decide +kernel
theorem d_M_init_83 : decode b_M_init 83 = .ok (.aload_n 0, 1) := by decide +kernel
theorem d_M_init_84 : decode b_M_init 84 = .ok (.bipush 75, 2) := by decide +kernel
theorem d_M_init_86 : decode b_M_init 86 = .ok (.newarray .int, 2) := by decide +kernel
theorem d_M_init_88 : decode b_M_init 88 = .ok (.putfield 41, 3) := by decide +kernel
theorem d_M_init_91 : decode b_M_init 91 = .ok (.aload_n 0, 1) := by decide +kernel
theorem d_M_init_92 : decode b_M_init 92 = .ok (.bipush 75, 2) := by decide +kernel
theorem d_M_init_94 : decode b_M_init 94 = .ok (.newarray .int, 2) := by decide +kernel
theorem d_M_init_96 : decode b_M_init 96 = .ok (.putfield 44, 3) := by decide +kernel
theorem d_M_init_99 : decode b_M_init 99 = .ok (.aload_n 0, 1) := by decide +kernel
theorem d_M_init_100 : decode b_M_init 100 = .ok (.bipush 75, 2) := by decide +kernel
theorem d_M_init_102 : decode b_M_init 102 = .ok (.newarray .int, 2) := by decide +kernel
theorem d_M_init_104 : decode b_M_init 104 = .ok (.putfield 47, 3) := by decide +kernel
theorem d_M_init_107 : decode b_M_init 107 = .ok (.aload_n 0, 1) := by decide +kernel
theorem d_M_init_108 : decode b_M_init 108 = .ok (.iconst 4, 1) := by decide +kernel
theorem d_M_init_109 : decode b_M_init 109 = .ok (.newarray .boolean, 2) := by decide +kernel
theorem d_M_init_111 : decode b_M_init 111 = .ok (.putfield 50, 3) := by decide +kernel
theorem d_M_init_114 : decode b_M_init 114 = .ok (.aload_n 0, 1) := by decide +kernel
theorem d_M_init_115 : decode b_M_init 115 = .ok (.sipush 3691, 3) := by decide +kernel
theorem d_M_init_118 : decode b_M_init 118 = .ok (.newarray .int, 2) := by decide +kernel
theorem d_M_init_120 : decode b_M_init 120 = .ok (.putfield 53, 3) := by decide +kernel
theorem d_M_init_123 : decode b_M_init 123 = .ok (.aload_n 0, 1) := by decide +kernel
theorem d_M_init_124 : decode b_M_init 124 = .ok (.bipush 64, 2) := by decide +kernel
theorem d_M_init_126 : decode b_M_init 126 = .ok (.newarray .int, 2) := by decide +kernel
theorem d_M_init_128 : decode b_M_init 128 = .ok (.putfield 56, 3) := by decide +kernel
theorem d_M_init_131 : decode b_M_init 131 = .ok (.aload_n 0, 1) := by decide +kernel
theorem d_M_init_132 : decode b_M_init 132 = .ok (.bipush 64, 2) := by decide +kernel
theorem d_M_init_134 : decode b_M_init 134 = .ok (.newarray .int, 2) := by decide +kernel
theorem d_M_init_136 : decode b_M_init 136 = .ok (.putfield 59, 3) := by decide +kernel
theorem d_M_init_139 : decode b_M_init 139 = .ok (.return_, 1) := by decide +kernel
theorem d_M_isRoute_0 : decode b_M_isRoute 0 = .ok (.iload_n 0, 1) := by decide +kernel
theorem d_M_isRoute_1 : decode b_M_isRoute 1 = .ok (.ifCond .eq 8, 3) := by decide +kernel
theorem d_M_isRoute_4 : decode b_M_isRoute 4 = .ok (.iload_n 0, 1) := by decide +kernel
theorem d_M_isRoute_5 : decode b_M_isRoute 5 = .ok (.iconst 1, 1) := by decide +kernel
theorem d_M_isRoute_6 : decode b_M_isRoute 6 = .ok (.if_icmp .ne 7, 3) := by decide +kernel
theorem d_M_isRoute_9 : decode b_M_isRoute 9 = .ok (.iconst 1, 1) := by decide +kernel
theorem d_M_isRoute_10 : decode b_M_isRoute 10 = .ok (.goto 4, 3) := by decide +kernel
theorem d_M_isRoute_13 : decode b_M_isRoute 13 = .ok (.iconst 0, 1) := by decide +kernel
theorem d_M_isRoute_14 : decode b_M_isRoute 14 = .ok (.ireturn, 1) := by decide +kernel
theorem d_M_visit_0 : decode b_M_visit 0 = .ok (.iload_n 1, 1) := by decide +kernel
theorem d_M_visit_1 : decode b_M_visit 1 = .ok (.invokestatic 62, 3) := by decide +kernel
theorem d_M_visit_4 : decode b_M_visit 4 = .ok (.ifCond .eq 54, 3) := by decide +kernel
theorem d_M_visit_7 : decode b_M_visit 7 = .ok (.aload_n 0, 1) := by decide +kernel
theorem d_M_visit_8 : decode b_M_visit 8 = .ok (.getfield 7, 3) := by decide +kernel
theorem d_M_visit_11 : decode b_M_visit 11 = .ok (.iload_n 1, 1) := by decide +kernel
theorem d_M_visit_12 : decode b_M_visit 12 = .ok (.iaload, 1) := by decide +kernel
theorem d_M_visit_13 : decode b_M_visit 13 = .ok (.iconst 3, 1) := by decide +kernel
theorem d_M_visit_14 : decode b_M_visit 14 = .ok (.if_icmp .eq 44, 3) := by decide +kernel
theorem d_M_visit_17 : decode b_M_visit 17 = .ok (.iload_n 2, 1) := by decide +kernel
theorem d_M_visit_18 : decode b_M_visit 18 = .ok (.iconst 1, 1) := by decide +kernel
theorem d_M_visit_19 : decode b_M_visit 19 = .ok (.if_icmp .lt 39, 3) := by decide +kernel
theorem d_M_visit_22 : decode b_M_visit 22 = .ok (.iload_n 2, 1) := by decide +kernel
theorem d_M_visit_23 : decode b_M_visit 23 = .ok (.bipush 15, 2) := by decide +kernel
theorem d_M_visit_25 : decode b_M_visit 25 = .ok (.if_icmp .gt 33, 3) := by decide +kernel
theorem d_M_visit_28 : decode b_M_visit 28 = .ok (.iload_n 3, 1) := by decide +kernel
theorem d_M_visit_29 : decode b_M_visit 29 = .ok (.iconst 1, 1) := by decide +kernel
theorem d_M_visit_30 : decode b_M_visit 30 = .ok (.if_icmp .lt 28, 3) := by decide +kernel
theorem d_M_visit_33 : decode b_M_visit 33 = .ok (.iload_n 3, 1) := by decide +kernel
theorem d_M_visit_34 : decode b_M_visit 34 = .ok (.bipush 100, 2) := by decide +kernel
theorem d_M_visit_36 : decode b_M_visit 36 = .ok (.if_icmp .gt 22, 3) := by decide +kernel
theorem d_M_visit_39 : decode b_M_visit 39 = .ok (.iload 4, 2) := by decide +kernel
theorem d_M_visit_41 : decode b_M_visit 41 = .ok (.ifCond .lt 17, 3) := by decide +kernel
theorem d_M_visit_44 : decode b_M_visit 44 = .ok (.iload 4, 2) := by decide +kernel
theorem d_M_visit_46 : decode b_M_visit 46 = .ok (.bipush 100, 2) := by decide +kernel
theorem d_M_visit_48 : decode b_M_visit 48 = .ok (.if_icmp .gt 10, 3) := by decide +kernel
theorem d_M_visit_51 : decode b_M_visit 51 = .ok (.aload_n 0, 1) := by decide +kernel
theorem d_M_visit_52 : decode b_M_visit 52 = .ok (.getfield 66, 3) := by decide +kernel
theorem d_M_visit_55 : decode b_M_visit 55 = .ok (.ifCond .le 5, 3) := by decide +kernel
theorem d_M_visit_58 : decode b_M_visit 58 = .ok (.iconst (-1), 1) := by decide +kernel
theorem d_M_visit_59 : decode b_M_visit 59 = .ok (.ireturn, 1) := by decide +kernel
theorem d_M_visit_60 : decode b_M_visit 60 = .ok (.iconst 3, 1) := by decide +kernel
theorem d_M_visit_61 : decode b_M_visit 61 = .ok (.iload_n 1, 1) := by decide +kernel
theorem d_M_visit_62 : decode b_M_visit 62 = .ok (.imul, 1) := by decide +kernel
theorem d_M_visit_63 : decode b_M_visit 63 = .ok (.aload_n 0, 1) := by decide +kernel
theorem d_M_visit_64 : decode b_M_visit 64 = .ok (.getfield 7, 3) := by decide +kernel
theorem d_M_visit_67 : decode b_M_visit 67 = .ok (.iload_n 1, 1) := by decide +kernel
theorem d_M_visit_68 : decode b_M_visit 68 = .ok (.iaload, 1) := by decide +kernel
theorem d_M_visit_69 : decode b_M_visit 69 = .ok (.iadd, 1) := by decide +kernel
theorem d_M_visit_70 : decode b_M_visit 70 = .ok (.istore 5, 2) := by decide +kernel
theorem d_M_visit_72 : decode b_M_visit 72 = .ok (.aload_n 0, 1) := by decide +kernel
theorem d_M_visit_73 : decode b_M_visit 73 = .ok (.getfield 13, 3) := by decide +kernel
theorem d_M_visit_76 : decode b_M_visit 76 = .ok (.iload 5, 2) := by decide +kernel
theorem d_M_visit_78 : decode b_M_visit 78 = .ok (.iload_n 2, 1) := by decide +kernel
theorem d_M_visit_79 : decode b_M_visit 79 = .ok (.iastore, 1) := by decide +kernel
theorem d_M_visit_80 : decode b_M_visit 80 = .ok (.aload_n 0, 1) := by decide +kernel
theorem d_M_visit_81 : decode b_M_visit 81 = .ok (.getfield 16, 3) := by decide +kernel
theorem d_M_visit_84 : decode b_M_visit 84 = .ok (.iload 5, 2) := by decide +kernel
theorem d_M_visit_86 : decode b_M_visit 86 = .ok (.iload_n 3, 1) := by decide +kernel
theorem d_M_visit_87 : decode b_M_visit 87 = .ok (.iastore, 1) := by decide +kernel
theorem d_M_visit_88 : decode b_M_visit 88 = .ok (.aload_n 0, 1) := by decide +kernel
theorem d_M_visit_89 : decode b_M_visit 89 = .ok (.getfield 19, 3) := by decide +kernel
theorem d_M_visit_92 : decode b_M_visit 92 = .ok (.iload 5, 2) := by decide +kernel
theorem d_M_visit_94 : decode b_M_visit 94 = .ok (.iload 4, 2) := by decide +kernel
theorem d_M_visit_96 : decode b_M_visit 96 = .ok (.iastore, 1) := by decide +kernel
theorem d_M_visit_97 : decode b_M_visit 97 = .ok (.aload_n 0, 1) := by decide +kernel
theorem d_M_visit_98 : decode b_M_visit 98 = .ok (.getfield 7, 3) := by decide +kernel
theorem d_M_visit_101 : decode b_M_visit 101 = .ok (.iload_n 1, 1) := by decide +kernel
theorem d_M_visit_102 : decode b_M_visit 102 = .ok (.dup2, 1) := by decide +kernel
theorem d_M_visit_103 : decode b_M_visit 103 = .ok (.iaload, 1) := by decide +kernel
theorem d_M_visit_104 : decode b_M_visit 104 = .ok (.iconst 1, 1) := by decide +kernel
theorem d_M_visit_105 : decode b_M_visit 105 = .ok (.iadd, 1) := by decide +kernel
theorem d_M_visit_106 : decode b_M_visit 106 = .ok (.iastore, 1) := by decide +kernel
theorem d_M_visit_107 : decode b_M_visit 107 = .ok (.aload_n 0, 1) := by decide +kernel
theorem d_M_visit_108 : decode b_M_visit 108 = .ok (.iconst 1, 1) := by decide +kernel
theorem d_M_visit_109 : decode b_M_visit 109 = .ok (.putfield 70, 3) := by decide +kernel
theorem d_M_visit_112 : decode b_M_visit 112 = .ok (.aload_n 0, 1) := by decide +kernel
theorem d_M_visit_113 : decode b_M_visit 113 = .ok (.getfield 7, 3) := by decide +kernel
theorem d_M_visit_116 : decode b_M_visit 116 = .ok (.iload_n 1, 1) := by decide +kernel
theorem d_M_visit_117 : decode b_M_visit 117 = .ok (.iaload, 1) := by decide +kernel
theorem d_M_visit_118 : decode b_M_visit 118 = .ok (.ireturn, 1) := by decide +kernel
theorem d_M_load_0 : decode b_M_load 0 = .ok (.iload_n 1, 1) := by decide +kernel
theorem d_M_load_1 : decode b_M_load 1 = .ok (.invokestatic 62, 3) := by decide +kernel
theorem d_M_load_4 : decode b_M_load 4 = .ok (.ifCond .eq 12, 3) := by decide +kernel
theorem d_M_load_7 : decode b_M_load 7 = .ok (.aload_n 0, 1) := by decide +kernel
theorem d_M_load_8 : decode b_M_load 8 = .ok (.getfield 66, 3) := by decide +kernel
theorem d_M_load_11 : decode b_M_load 11 = .ok (.bipush 25, 2) := by decide +kernel
theorem d_M_load_13 : decode b_M_load 13 = .ok (.if_icmp .ne 5, 3) := by decide +kernel
theorem d_M_load_16 : decode b_M_load 16 = .ok (.iconst (-1), 1) := by decide +kernel
theorem d_M_load_17 : decode b_M_load 17 = .ok (.ireturn, 1) := by decide +kernel
theorem d_M_load_18 : decode b_M_load 18 = .ok (.aload_n 0, 1) := by decide +kernel
theorem d_M_load_19 : decode b_M_load 19 = .ok (.getfield 22, 3) := by decide +kernel
theorem d_M_load_22 : decode b_M_load 22 = .ok (.aload_n 0, 1) := by decide +kernel
theorem d_M_load_23 : decode b_M_load 23 = .ok (.getfield 66, 3) := by decide +kernel
theorem d_M_load_26 : decode b_M_load 26 = .ok (.iload_n 1, 1) := by decide +kernel
theorem d_M_load_27 : decode b_M_load 27 = .ok (.iastore, 1) := by decide +kernel
theorem d_M_load_28 : decode b_M_load 28 = .ok (.aload_n 0, 1) := by decide +kernel
theorem d_M_load_29 : decode b_M_load 29 = .ok (.getfield 28, 3) := by decide +kernel
theorem d_M_load_32 : decode b_M_load 32 = .ok (.aload_n 0, 1) := by decide +kernel
theorem d_M_load_33 : decode b_M_load 33 = .ok (.getfield 66, 3) := by decide +kernel
theorem d_M_load_36 : decode b_M_load 36 = .ok (.iconst 5, 1) := by decide +kernel
theorem d_M_load_37 : decode b_M_load 37 = .ok (.iastore, 1) := by decide +kernel
theorem d_M_load_38 : decode b_M_load 38 = .ok (.aload_n 0, 1) := by decide +kernel
theorem d_M_load_39 : decode b_M_load 39 = .ok (.dup, 1) := by decide +kernel
theorem d_M_load_40 : decode b_M_load 40 = .ok (.getfield 66, 3) := by decide +kernel
theorem d_M_load_43 : decode b_M_load 43 = .ok (.iconst 1, 1) := by decide +kernel
theorem d_M_load_44 : decode b_M_load 44 = .ok (.iadd, 1) := by decide +kernel
theorem d_M_load_45 : decode b_M_load 45 = .ok (.putfield 66, 3) := by decide +kernel
theorem d_M_load_48 : decode b_M_load 48 = .ok (.aload_n 0, 1) := by decide +kernel
theorem d_M_load_49 : decode b_M_load 49 = .ok (.getfield 66, 3) := by decide +kernel
theorem d_M_load_52 : decode b_M_load 52 = .ok (.iconst 1, 1) := by decide +kernel
theorem d_M_load_53 : decode b_M_load 53 = .ok (.isub, 1) := by decide +kernel
theorem d_M_load_54 : decode b_M_load 54 = .ok (.ireturn, 1) := by decide +kernel
theorem d_M_isWafer_0 : decode b_M_isWafer 0 = .ok (.iload_n 1, 1) := by decide +kernel
theorem d_M_isWafer_1 : decode b_M_isWafer 1 = .ok (.ifCond .lt 15, 3) := by decide +kernel
theorem d_M_isWafer_4 : decode b_M_isWafer 4 = .ok (.iload_n 1, 1) := by decide +kernel
theorem d_M_isWafer_5 : decode b_M_isWafer 5 = .ok (.aload_n 0, 1) := by decide +kernel
theorem d_M_isWafer_6 : decode b_M_isWafer 6 = .ok (.getfield 66, 3) := by decide +kernel
theorem d_M_isWafer_9 : decode b_M_isWafer 9 = .ok (.if_icmp .ge 7, 3) := by decide +kernel
theorem d_M_isWafer_12 : decode b_M_isWafer 12 = .ok (.iconst 1, 1) := by decide +kernel
theorem d_M_isWafer_13 : decode b_M_isWafer 13 = .ok (.goto 4, 3) := by decide +kernel
theorem d_M_isWafer_16 : decode b_M_isWafer 16 = .ok (.iconst 0, 1) := by decide +kernel
theorem d_M_isWafer_17 : decode b_M_isWafer 17 = .ok (.ireturn, 1) := by decide +kernel
theorem d_M_isFinished_0 : decode b_M_isFinished 0 = .ok (.aload_n 0, 1) := by decide +kernel
theorem d_M_isFinished_1 : decode b_M_isFinished 1 = .ok (.getfield 28, 3) := by decide +kernel
theorem d_M_isFinished_4 : decode b_M_isFinished 4 = .ok (.iload_n 1, 1) := by decide +kernel
theorem d_M_isFinished_5 : decode b_M_isFinished 5 = .ok (.iaload, 1) := by decide +kernel
theorem d_M_isFinished_6 : decode b_M_isFinished 6 = .ok (.iconst 5, 1) := by decide +kernel
theorem d_M_isFinished_7 : decode b_M_isFinished 7 = .ok (.if_icmp .ne 27, 3) := by decide +kernel
theorem d_M_isFinished_10 : decode b_M_isFinished 10 = .ok (.aload_n 0, 1) := by decide +kernel
theorem d_M_isFinished_11 : decode b_M_isFinished 11 = .ok (.getfield 25, 3) := by decide +kernel
theorem d_M_isFinished_14 : decode b_M_isFinished 14 = .ok (.iload_n 1, 1) := by decide +kernel
theorem d_M_isFinished_15 : decode b_M_isFinished 15 = .ok (.iaload, 1) := by decide +kernel
theorem d_M_isFinished_16 : decode b_M_isFinished 16 = .ok (.aload_n 0, 1) := by decide +kernel
theorem d_M_isFinished_17 : decode b_M_isFinished 17 = .ok (.getfield 7, 3) := by decide +kernel
theorem d_M_isFinished_20 : decode b_M_isFinished 20 = .ok (.aload_n 0, 1) := by decide +kernel
theorem d_M_isFinished_21 : decode b_M_isFinished 21 = .ok (.getfield 22, 3) := by decide +kernel
theorem d_M_isFinished_24 : decode b_M_isFinished 24 = .ok (.iload_n 1, 1) := by decide +kernel
theorem d_M_isFinished_25 : decode b_M_isFinished 25 = .ok (.iaload, 1) := by decide +kernel
theorem d_M_isFinished_26 : decode b_M_isFinished 26 = .ok (.iaload, 1) := by decide +kernel
theorem d_M_isFinished_27 : decode b_M_isFinished 27 = .ok (.if_icmp .ne 7, 3) := by decide +kernel
theorem d_M_isFinished_30 : decode b_M_isFinished 30 = .ok (.iconst 1, 1) := by decide +kernel
theorem d_M_isFinished_31 : decode b_M_isFinished 31 = .ok (.goto 4, 3) := by decide +kernel
theorem d_M_isFinished_34 : decode b_M_isFinished 34 = .ok (.iconst 0, 1) := by decide +kernel
theorem d_M_isFinished_35 : decode b_M_isFinished 35 = .ok (.ireturn, 1) := by decide +kernel
theorem d_M_isFront_0 : decode b_M_isFront 0 = .ok (.iload_n 0, 1) := by decide +kernel
theorem d_M_isFront_1 : decode b_M_isFront 1 = .ok (.iconst 2, 1) := by decide +kernel
theorem d_M_isFront_2 : decode b_M_isFront 2 = .ok (.if_icmp .lt 8, 3) := by decide +kernel
theorem d_M_isFront_5 : decode b_M_isFront 5 = .ok (.iload_n 0, 1) := by decide +kernel
theorem d_M_isFront_6 : decode b_M_isFront 6 = .ok (.iconst 3, 1) := by decide +kernel
theorem d_M_isFront_7 : decode b_M_isFront 7 = .ok (.if_icmp .le 7, 3) := by decide +kernel
theorem d_M_isFront_10 : decode b_M_isFront 10 = .ok (.iconst 1, 1) := by decide +kernel
theorem d_M_isFront_11 : decode b_M_isFront 11 = .ok (.goto 4, 3) := by decide +kernel
theorem d_M_isFront_14 : decode b_M_isFront 14 = .ok (.iconst 0, 1) := by decide +kernel
theorem d_M_isFront_15 : decode b_M_isFront 15 = .ok (.ireturn, 1) := by decide +kernel
theorem d_M_isBack_0 : decode b_M_isBack 0 = .ok (.iload_n 0, 1) := by decide +kernel
theorem d_M_isBack_1 : decode b_M_isBack 1 = .ok (.iconst 1, 1) := by decide +kernel
theorem d_M_isBack_2 : decode b_M_isBack 2 = .ok (.if_icmp .le 12, 3) := by decide +kernel
theorem d_M_isBack_5 : decode b_M_isBack 5 = .ok (.iload_n 0, 1) := by decide +kernel
theorem d_M_isBack_6 : decode b_M_isBack 6 = .ok (.iconst 5, 1) := by decide +kernel
theorem d_M_isBack_7 : decode b_M_isBack 7 = .ok (.if_icmp .ge 7, 3) := by decide +kernel
theorem d_M_isBack_10 : decode b_M_isBack 10 = .ok (.iconst 1, 1) := by decide +kernel
theorem d_M_isBack_11 : decode b_M_isBack 11 = .ok (.goto 4, 3) := by decide +kernel
theorem d_M_isBack_14 : decode b_M_isBack 14 = .ok (.iconst 0, 1) := by decide +kernel
theorem d_M_isBack_15 : decode b_M_isBack 15 = .ok (.ireturn, 1) := by decide +kernel
theorem d_M_areNear_0 : decode b_M_areNear 0 = .ok (.iload_n 0, 1) := by decide +kernel
theorem d_M_areNear_1 : decode b_M_areNear 1 = .ok (.invokestatic 74, 3) := by decide +kernel
theorem d_M_areNear_4 : decode b_M_areNear 4 = .ok (.ifCond .eq 10, 3) := by decide +kernel
theorem d_M_areNear_7 : decode b_M_areNear 7 = .ok (.iload_n 1, 1) := by decide +kernel
theorem d_M_areNear_8 : decode b_M_areNear 8 = .ok (.invokestatic 74, 3) := by decide +kernel
theorem d_M_areNear_11 : decode b_M_areNear 11 = .ok (.ifCond .ne 17, 3) := by decide +kernel
theorem d_M_areNear_14 : decode b_M_areNear 14 = .ok (.iload_n 0, 1) := by decide +kernel
theorem d_M_areNear_15 : decode b_M_areNear 15 = .ok (.invokestatic 77, 3) := by decide +kernel
theorem d_M_areNear_18 : decode b_M_areNear 18 = .ok (.ifCond .eq 14, 3) := by decide +kernel
theorem d_M_areNear_21 : decode b_M_areNear 21 = .ok (.iload_n 1, 1) := by decide +kernel
theorem d_M_areNear_22 : decode b_M_areNear 22 = .ok (.invokestatic 77, 3) := by decide +kernel
theorem d_M_areNear_25 : decode b_M_areNear 25 = .ok (.ifCond .eq 7, 3) := by decide +kernel
theorem d_M_areNear_28 : decode b_M_areNear 28 = .ok (.iconst 1, 1) := by decide +kernel
theorem d_M_areNear_29 : decode b_M_areNear 29 = .ok (.goto 4, 3) := by decide +kernel
theorem d_M_areNear_32 : decode b_M_areNear 32 = .ok (.iconst 0, 1) := by decide +kernel
theorem d_M_areNear_33 : decode b_M_areNear 33 = .ok (.ireturn, 1) := by decide +kernel
theorem d_M_isWay_0 : decode b_M_isWay 0 = .ok (.iload_n 3, 1) := by decide +kernel
theorem d_M_isWay_1 : decode b_M_isWay 1 = .ok (.iconst 4, 1) := by decide +kernel
theorem d_M_isWay_2 : decode b_M_isWay 2 = .ok (.if_icmp .ge 12, 3) := by decide +kernel
theorem d_M_isWay_5 : decode b_M_isWay 5 = .ok (.aload_n 0, 1) := by decide +kernel
theorem d_M_isWay_6 : decode b_M_isWay 6 = .ok (.getfield 50, 3) := by decide +kernel
theorem d_M_isWay_9 : decode b_M_isWay 9 = .ok (.iload_n 3, 1) := by decide +kernel
theorem d_M_isWay_10 : decode b_M_isWay 10 = .ok (.baload, 1) := by decide +kernel
theorem d_M_isWay_11 : decode b_M_isWay 11 = .ok (.ifCond .ne 28, 3) := by decide +kernel
theorem d_M_isWay_14 : decode b_M_isWay 14 = .ok (.iload 4, 2) := by decide +kernel
theorem d_M_isWay_16 : decode b_M_isWay 16 = .ok (.iconst 4, 1) := by decide +kernel
theorem d_M_isWay_17 : decode b_M_isWay 17 = .ok (.if_icmp .ge 13, 3) := by decide +kernel
theorem d_M_isWay_20 : decode b_M_isWay 20 = .ok (.aload_n 0, 1) := by decide +kernel
theorem d_M_isWay_21 : decode b_M_isWay 21 = .ok (.getfield 50, 3) := by decide +kernel
theorem d_M_isWay_24 : decode b_M_isWay 24 = .ok (.iload 4, 2) := by decide +kernel
theorem d_M_isWay_26 : decode b_M_isWay 26 = .ok (.baload, 1) := by decide +kernel
theorem d_M_isWay_27 : decode b_M_isWay 27 = .ok (.ifCond .ne 12, 3) := by decide +kernel
theorem d_M_isWay_30 : decode b_M_isWay 30 = .ok (.iload_n 3, 1) := by decide +kernel
theorem d_M_isWay_31 : decode b_M_isWay 31 = .ok (.iload 4, 2) := by decide +kernel
theorem d_M_isWay_33 : decode b_M_isWay 33 = .ok (.invokestatic 80, 3) := by decide +kernel
theorem d_M_isWay_36 : decode b_M_isWay 36 = .ok (.ifCond .ne 5, 3) := by decide +kernel
theorem d_M_isWay_39 : decode b_M_isWay 39 = .ok (.iconst 0, 1) := by decide +kernel
theorem d_M_isWay_40 : decode b_M_isWay 40 = .ok (.ireturn, 1) := by decide +kernel
theorem d_M_isWay_41 : decode b_M_isWay 41 = .ok (.iload_n 2, 1) := by decide +kernel
theorem d_M_isWay_42 : decode b_M_isWay 42 = .ok (.aload_n 0, 1) := by decide +kernel
theorem d_M_isWay_43 : decode b_M_isWay 43 = .ok (.getfield 7, 3) := by decide +kernel
theorem d_M_isWay_46 : decode b_M_isWay 46 = .ok (.iload_n 1, 1) := by decide +kernel
theorem d_M_isWay_47 : decode b_M_isWay 47 = .ok (.iaload, 1) := by decide +kernel
theorem d_M_isWay_48 : decode b_M_isWay 48 = .ok (.if_icmp .ne 47, 3) := by decide +kernel
theorem d_M_isWay_51 : decode b_M_isWay 51 = .ok (.iload_n 3, 1) := by decide +kernel
theorem d_M_isWay_52 : decode b_M_isWay 52 = .ok (.iconst 2, 1) := by decide +kernel
theorem d_M_isWay_53 : decode b_M_isWay 53 = .ok (.if_icmp .ge 9, 3) := by decide +kernel
theorem d_M_isWay_56 : decode b_M_isWay 56 = .ok (.iload 4, 2) := by decide +kernel
theorem d_M_isWay_58 : decode b_M_isWay 58 = .ok (.iconst 5, 1) := by decide +kernel
theorem d_M_isWay_59 : decode b_M_isWay 59 = .ok (.if_icmp .eq 30, 3) := by decide +kernel
theorem d_M_isWay_62 : decode b_M_isWay 62 = .ok (.iload_n 3, 1) := by decide +kernel
theorem d_M_isWay_63 : decode b_M_isWay 63 = .ok (.iconst 4, 1) := by decide +kernel
theorem d_M_isWay_64 : decode b_M_isWay 64 = .ok (.if_icmp .ne 9, 3) := by decide +kernel
theorem d_M_isWay_67 : decode b_M_isWay 67 = .ok (.iload 4, 2) := by decide +kernel
theorem d_M_isWay_69 : decode b_M_isWay 69 = .ok (.iconst 5, 1) := by decide +kernel
theorem d_M_isWay_70 : decode b_M_isWay 70 = .ok (.if_icmp .eq 19, 3) := by decide +kernel
theorem d_M_isWay_73 : decode b_M_isWay 73 = .ok (.iload_n 3, 1) := by decide +kernel
theorem d_M_isWay_74 : decode b_M_isWay 74 = .ok (.iconst 1, 1) := by decide +kernel
theorem d_M_isWay_75 : decode b_M_isWay 75 = .ok (.if_icmp .le 18, 3) := by decide +kernel
theorem d_M_isWay_78 : decode b_M_isWay 78 = .ok (.iload_n 3, 1) := by decide +kernel
theorem d_M_isWay_79 : decode b_M_isWay 79 = .ok (.iconst 4, 1) := by decide +kernel
theorem d_M_isWay_80 : decode b_M_isWay 80 = .ok (.if_icmp .ge 13, 3) := by decide +kernel
theorem d_M_isWay_83 : decode b_M_isWay 83 = .ok (.iload 4, 2) := by decide +kernel
theorem d_M_isWay_85 : decode b_M_isWay 85 = .ok (.iconst 4, 1) := by decide +kernel
theorem d_M_isWay_86 : decode b_M_isWay 86 = .ok (.if_icmp .ne 7, 3) := by decide +kernel
theorem d_M_isWay_89 : decode b_M_isWay 89 = .ok (.iconst 1, 1) := by decide +kernel
theorem d_M_isWay_90 : decode b_M_isWay 90 = .ok (.goto 4, 3) := by decide +kernel
theorem d_M_isWay_93 : decode b_M_isWay 93 = .ok (.iconst 0, 1) := by decide +kernel
theorem d_M_isWay_94 : decode b_M_isWay 94 = .ok (.ireturn, 1) := by decide +kernel
theorem d_M_isWay_95 : decode b_M_isWay 95 = .ok (.aload_n 0, 1) := by decide +kernel
theorem d_M_isWay_96 : decode b_M_isWay 96 = .ok (.getfield 13, 3) := by decide +kernel
theorem d_M_isWay_99 : decode b_M_isWay 99 = .ok (.iconst 3, 1) := by decide +kernel
theorem d_M_isWay_100 : decode b_M_isWay 100 = .ok (.iload_n 1, 1) := by decide +kernel
theorem d_M_isWay_101 : decode b_M_isWay 101 = .ok (.imul, 1) := by decide +kernel
theorem d_M_isWay_102 : decode b_M_isWay 102 = .ok (.iload_n 2, 1) := by decide +kernel
theorem d_M_isWay_103 : decode b_M_isWay 103 = .ok (.iadd, 1) := by decide +kernel
theorem d_M_isWay_104 : decode b_M_isWay 104 = .ok (.iaload, 1) := by decide +kernel
theorem d_M_isWay_105 : decode b_M_isWay 105 = .ok (.istore 5, 2) := by decide +kernel
theorem d_M_isWay_107 : decode b_M_isWay 107 = .ok (.iload 4, 2) := by decide +kernel
theorem d_M_isWay_109 : decode b_M_isWay 109 = .ok (.iconst 4, 1) := by decide +kernel
theorem d_M_isWay_110 : decode b_M_isWay 110 = .ok (.if_icmp .ge 20, 3) := by decide +kernel
theorem d_M_isWay_113 : decode b_M_isWay 113 = .ok (.iload 5, 2) := by decide +kernel
theorem d_M_isWay_115 : decode b_M_isWay 115 = .ok (.iload 4, 2) := by decide +kernel
theorem d_M_isWay_117 : decode b_M_isWay 117 = .ok (.ishr, 1) := by decide +kernel
theorem d_M_isWay_118 : decode b_M_isWay 118 = .ok (.iconst 1, 1) := by decide +kernel
theorem d_M_isWay_119 : decode b_M_isWay 119 = .ok (.iand, 1) := by decide +kernel
theorem d_M_isWay_120 : decode b_M_isWay 120 = .ok (.iconst 1, 1) := by decide +kernel
theorem d_M_isWay_121 : decode b_M_isWay 121 = .ok (.if_icmp .ne 7, 3) := by decide +kernel
theorem d_M_isWay_124 : decode b_M_isWay 124 = .ok (.iconst 1, 1) := by decide +kernel
theorem d_M_isWay_125 : decode b_M_isWay 125 = .ok (.goto 4, 3) := by decide +kernel
theorem d_M_isWay_128 : decode b_M_isWay 128 = .ok (.iconst 0, 1) := by decide +kernel
theorem d_M_isWay_129 : decode b_M_isWay 129 = .ok (.ireturn, 1) := by decide +kernel
theorem d_M_isWay_130 : decode b_M_isWay 130 = .ok (.iload_n 3, 1) := by decide +kernel
theorem d_M_isWay_131 : decode b_M_isWay 131 = .ok (.iconst 2, 1) := by decide +kernel
theorem d_M_isWay_132 : decode b_M_isWay 132 = .ok (.if_icmp .lt 8, 3) := by decide +kernel
theorem d_M_isWay_135 : decode b_M_isWay 135 = .ok (.iload_n 3, 1) := by decide +kernel
theorem d_M_isWay_136 : decode b_M_isWay 136 = .ok (.iconst 5, 1) := by decide +kernel
theorem d_M_isWay_137 : decode b_M_isWay 137 = .ok (.if_icmp .ne 8, 3) := by decide +kernel
theorem d_M_isWay_140 : decode b_M_isWay 140 = .ok (.bipush 12, 2) := by decide +kernel
theorem d_M_isWay_142 : decode b_M_isWay 142 = .ok (.goto 4, 3) := by decide +kernel
theorem d_M_isWay_145 : decode b_M_isWay 145 = .ok (.iconst 3, 1) := by decide +kernel
theorem d_M_isWay_146 : decode b_M_isWay 146 = .ok (.istore 6, 2) := by decide +kernel
theorem d_M_isWay_148 : decode b_M_isWay 148 = .ok (.iload 4, 2) := by decide +kernel
theorem d_M_isWay_150 : decode b_M_isWay 150 = .ok (.iconst 4, 1) := by decide +kernel
theorem d_M_isWay_151 : decode b_M_isWay 151 = .ok (.if_icmp .ne 20, 3) := by decide +kernel
theorem d_M_isWay_154 : decode b_M_isWay 154 = .ok (.iload_n 3, 1) := by decide +kernel
theorem d_M_isWay_155 : decode b_M_isWay 155 = .ok (.iconst 4, 1) := by decide +kernel
theorem d_M_isWay_156 : decode b_M_isWay 156 = .ok (.if_icmp .eq 15, 3) := by decide +kernel
theorem d_M_isWay_159 : decode b_M_isWay 159 = .ok (.iload 5, 2) := by decide +kernel
theorem d_M_isWay_161 : decode b_M_isWay 161 = .ok (.iload 6, 2) := by decide +kernel
theorem d_M_isWay_163 : decode b_M_isWay 163 = .ok (.iand, 1) := by decide +kernel
theorem d_M_isWay_164 : decode b_M_isWay 164 = .ok (.ifCond .eq 7, 3) := by decide +kernel
theorem d_M_isWay_167 : decode b_M_isWay 167 = .ok (.iconst 1, 1) := by decide +kernel
theorem d_M_isWay_168 : decode b_M_isWay 168 = .ok (.goto 4, 3) := by decide +kernel
theorem d_M_isWay_171 : decode b_M_isWay 171 = .ok (.iconst 0, 1) := by decide +kernel
theorem d_M_isWay_172 : decode b_M_isWay 172 = .ok (.ireturn, 1) := by decide +kernel
theorem d_M_power_0 : decode b_M_power 0 = .ok (.iconst 1, 1) := by decide +kernel
theorem d_M_power_1 : decode b_M_power 1 = .ok (.istore_n 1, 1) := by decide +kernel
theorem d_M_power_2 : decode b_M_power 2 = .ok (.iconst 0, 1) := by decide +kernel
theorem d_M_power_3 : decode b_M_power 3 = .ok (.istore_n 2, 1) := by decide +kernel
theorem d_M_power_4 : decode b_M_power 4 = .ok (.iload_n 2, 1) := by decide +kernel
theorem d_M_power_5 : decode b_M_power 5 = .ok (.iload_n 0, 1) := by decide +kernel
theorem d_M_power_6 : decode b_M_power 6 = .ok (.if_icmp .ge 14, 3) := by decide +kernel
theorem d_M_power_9 : decode b_M_power 9 = .ok (.bipush 9, 2) := by decide +kernel
theorem d_M_power_11 : decode b_M_power 11 = .ok (.iload_n 1, 1) := by decide +kernel
theorem d_M_power_12 : decode b_M_power 12 = .ok (.imul, 1) := by decide +kernel
theorem d_M_power_13 : decode b_M_power 13 = .ok (.istore_n 1, 1) := by decide +kernel
theorem d_M_power_14 : decode b_M_power 14 = .ok (.iinc 2 1, 3) := by decide +kernel
theorem d_M_power_17 : decode b_M_power 17 = .ok (.goto (-13), 3) := by decide +kernel
theorem d_M_power_20 : decode b_M_power 20 = .ok (.iload_n 1, 1) := by decide +kernel
theorem d_M_power_21 : decode b_M_power 21 = .ok (.ireturn, 1) := by decide +kernel
theorem d_M_digit_0 : decode b_M_digit 0 = .ok (.iload_n 0, 1) := by decide +kernel
theorem d_M_digit_1 : decode b_M_digit 1 = .ok (.iload_n 1, 1) := by decide +kernel
theorem d_M_digit_2 : decode b_M_digit 2 = .ok (.invokestatic 84, 3) := by decide +kernel
theorem d_M_digit_5 : decode b_M_digit 5 = .ok (.idiv, 1) := by decide +kernel
theorem d_M_digit_6 : decode b_M_digit 6 = .ok (.bipush 9, 2) := by decide +kernel
theorem d_M_digit_8 : decode b_M_digit 8 = .ok (.irem, 1) := by decide +kernel
theorem d_M_digit_9 : decode b_M_digit 9 = .ok (.ireturn, 1) := by decide +kernel
theorem d_M_digitOf_0 : decode b_M_digitOf 0 = .ok (.iconst 1, 1) := by decide +kernel
theorem d_M_digitOf_1 : decode b_M_digitOf 1 = .ok (.iconst 4, 1) := by decide +kernel
theorem d_M_digitOf_2 : decode b_M_digitOf 2 = .ok (.aload_n 0, 1) := by decide +kernel
theorem d_M_digitOf_3 : decode b_M_digitOf 3 = .ok (.getfield 22, 3) := by decide +kernel
theorem d_M_digitOf_6 : decode b_M_digitOf 6 = .ok (.iload_n 1, 1) := by decide +kernel
theorem d_M_digitOf_7 : decode b_M_digitOf 7 = .ok (.iaload, 1) := by decide +kernel
theorem d_M_digitOf_8 : decode b_M_digitOf 8 = .ok (.imul, 1) := by decide +kernel
theorem d_M_digitOf_9 : decode b_M_digitOf 9 = .ok (.iadd, 1) := by decide +kernel
theorem d_M_digitOf_10 : decode b_M_digitOf 10 = .ok (.aload_n 0, 1) := by decide +kernel
theorem d_M_digitOf_11 : decode b_M_digitOf 11 = .ok (.getfield 25, 3) := by decide +kernel
theorem d_M_digitOf_14 : decode b_M_digitOf 14 = .ok (.iload_n 1, 1) := by decide +kernel
theorem d_M_digitOf_15 : decode b_M_digitOf 15 = .ok (.iaload, 1) := by decide +kernel
theorem d_M_digitOf_16 : decode b_M_digitOf 16 = .ok (.iadd, 1) := by decide +kernel
theorem d_M_digitOf_17 : decode b_M_digitOf 17 = .ok (.ireturn, 1) := by decide +kernel
theorem d_M_situation_0 : decode b_M_situation 0 = .ok (.iconst 0, 1) := by decide +kernel
theorem d_M_situation_1 : decode b_M_situation 1 = .ok (.istore_n 1, 1) := by decide +kernel
theorem d_M_situation_2 : decode b_M_situation 2 = .ok (.iconst 0, 1) := by decide +kernel
theorem d_M_situation_3 : decode b_M_situation 3 = .ok (.istore_n 2, 1) := by decide +kernel
theorem d_M_situation_4 : decode b_M_situation 4 = .ok (.iload_n 2, 1) := by decide +kernel
theorem d_M_situation_5 : decode b_M_situation 5 = .ok (.aload_n 0, 1) := by decide +kernel
theorem d_M_situation_6 : decode b_M_situation 6 = .ok (.getfield 66, 3) := by decide +kernel
theorem d_M_situation_9 : decode b_M_situation 9 = .ok (.if_icmp .ge 41, 3) := by decide +kernel
theorem d_M_situation_12 : decode b_M_situation 12 = .ok (.aload_n 0, 1) := by decide +kernel
theorem d_M_situation_13 : decode b_M_situation 13 = .ok (.getfield 28, 3) := by decide +kernel
theorem d_M_situation_16 : decode b_M_situation 16 = .ok (.iload_n 2, 1) := by decide +kernel
theorem d_M_situation_17 : decode b_M_situation 17 = .ok (.iaload, 1) := by decide +kernel
theorem d_M_situation_18 : decode b_M_situation 18 = .ok (.iconst 5, 1) := by decide +kernel
theorem d_M_situation_19 : decode b_M_situation 19 = .ok (.if_icmp .ge 23, 3) := by decide +kernel
theorem d_M_situation_22 : decode b_M_situation 22 = .ok (.iload_n 1, 1) := by decide +kernel
theorem d_M_situation_23 : decode b_M_situation 23 = .ok (.aload_n 0, 1) := by decide +kernel
theorem d_M_situation_24 : decode b_M_situation 24 = .ok (.getfield 28, 3) := by decide +kernel
theorem d_M_situation_27 : decode b_M_situation 27 = .ok (.iload_n 2, 1) := by decide +kernel
theorem d_M_situation_28 : decode b_M_situation 28 = .ok (.iaload, 1) := by decide +kernel
theorem d_M_situation_29 : decode b_M_situation 29 = .ok (.invokestatic 84, 3) := by decide +kernel
theorem d_M_situation_32 : decode b_M_situation 32 = .ok (.aload_n 0, 1) := by decide +kernel
theorem d_M_situation_33 : decode b_M_situation 33 = .ok (.iload_n 2, 1) := by decide +kernel
theorem d_M_situation_34 : decode b_M_situation 34 = .ok (.invokevirtual 88, 3) := by decide +kernel
theorem d_M_situation_37 : decode b_M_situation 37 = .ok (.imul, 1) := by decide +kernel
theorem d_M_situation_38 : decode b_M_situation 38 = .ok (.iadd, 1) := by decide +kernel
theorem d_M_situation_39 : decode b_M_situation 39 = .ok (.goto 4, 3) := by decide +kernel
theorem d_M_situation_42 : decode b_M_situation 42 = .ok (.iload_n 1, 1) := by decide +kernel
theorem d_M_situation_43 : decode b_M_situation 43 = .ok (.istore_n 1, 1) := by decide +kernel
theorem d_M_situation_44 : decode b_M_situation 44 = .ok (.iinc 2 1, 3) := by decide +kernel
theorem d_M_situation_47 : decode b_M_situation 47 = .ok (.goto (-43), 3) := by decide +kernel
theorem d_M_situation_50 : decode b_M_situation 50 = .ok (.iload_n 1, 1) := by decide +kernel
theorem d_M_situation_51 : decode b_M_situation 51 = .ok (.ireturn, 1) := by decide +kernel
theorem d_M_isEmpty_0 : decode b_M_isEmpty 0 = .ok (.iconst 1, 1) := by decide +kernel
theorem d_M_isEmpty_1 : decode b_M_isEmpty 1 = .ok (.istore_n 2, 1) := by decide +kernel
theorem d_M_isEmpty_2 : decode b_M_isEmpty 2 = .ok (.iconst 0, 1) := by decide +kernel
theorem d_M_isEmpty_3 : decode b_M_isEmpty 3 = .ok (.istore_n 3, 1) := by decide +kernel
theorem d_M_isEmpty_4 : decode b_M_isEmpty 4 = .ok (.iload_n 3, 1) := by decide +kernel
theorem d_M_isEmpty_5 : decode b_M_isEmpty 5 = .ok (.iconst 5, 1) := by decide +kernel
theorem d_M_isEmpty_6 : decode b_M_isEmpty 6 = .ok (.if_icmp .ge 41, 3) := by decide +kernel
theorem d_M_isEmpty_9 : decode b_M_isEmpty 9 = .ok (.iload_n 2, 1) := by decide +kernel
theorem d_M_isEmpty_10 : decode b_M_isEmpty 10 = .ok (.ifCond .eq 29, 3) := by decide +kernel
theorem d_M_isEmpty_13 : decode b_M_isEmpty 13 = .ok (.iload_n 1, 1) := by decide +kernel
theorem d_M_isEmpty_14 : decode b_M_isEmpty 14 = .ok (.iload_n 3, 1) := by decide +kernel
theorem d_M_isEmpty_15 : decode b_M_isEmpty 15 = .ok (.invokestatic 91, 3) := by decide +kernel
theorem d_M_isEmpty_18 : decode b_M_isEmpty 18 = .ok (.ifCond .eq 17, 3) := by decide +kernel
theorem d_M_isEmpty_21 : decode b_M_isEmpty 21 = .ok (.iload_n 3, 1) := by decide +kernel
theorem d_M_isEmpty_22 : decode b_M_isEmpty 22 = .ok (.iconst 4, 1) := by decide +kernel
theorem d_M_isEmpty_23 : decode b_M_isEmpty 23 = .ok (.if_icmp .ge 16, 3) := by decide +kernel
theorem d_M_isEmpty_26 : decode b_M_isEmpty 26 = .ok (.aload_n 0, 1) := by decide +kernel
theorem d_M_isEmpty_27 : decode b_M_isEmpty 27 = .ok (.getfield 50, 3) := by decide +kernel
theorem d_M_isEmpty_30 : decode b_M_isEmpty 30 = .ok (.iload_n 3, 1) := by decide +kernel
theorem d_M_isEmpty_31 : decode b_M_isEmpty 31 = .ok (.baload, 1) := by decide +kernel
theorem d_M_isEmpty_32 : decode b_M_isEmpty 32 = .ok (.ifCond .eq 7, 3) := by decide +kernel
theorem d_M_isEmpty_35 : decode b_M_isEmpty 35 = .ok (.iconst 1, 1) := by decide +kernel
theorem d_M_isEmpty_36 : decode b_M_isEmpty 36 = .ok (.goto 4, 3) := by decide +kernel
theorem d_M_isEmpty_39 : decode b_M_isEmpty 39 = .ok (.iconst 0, 1) := by decide +kernel
theorem d_M_isEmpty_40 : decode b_M_isEmpty 40 = .ok (.istore_n 2, 1) := by decide +kernel
theorem d_M_isEmpty_41 : decode b_M_isEmpty 41 = .ok (.iinc 3 1, 3) := by decide +kernel
theorem d_M_isEmpty_44 : decode b_M_isEmpty 44 = .ok (.goto (-40), 3) := by decide +kernel
theorem d_M_isEmpty_47 : decode b_M_isEmpty 47 = .ok (.iload_n 2, 1) := by decide +kernel
theorem d_M_isEmpty_48 : decode b_M_isEmpty 48 = .ok (.ireturn, 1) := by decide +kernel
theorem d_M_after_0 : decode b_M_after 0 = .ok (.iload_n 1, 1) := by decide +kernel
theorem d_M_after_1 : decode b_M_after 1 = .ok (.iload_n 2, 1) := by decide +kernel
theorem d_M_after_2 : decode b_M_after 2 = .ok (.invokestatic 91, 3) := by decide +kernel
theorem d_M_after_5 : decode b_M_after 5 = .ok (.istore 4, 2) := by decide +kernel
theorem d_M_after_7 : decode b_M_after 7 = .ok (.iload 4, 2) := by decide +kernel
theorem d_M_after_9 : decode b_M_after 9 = .ok (.ifCond .ne 5, 3) := by decide +kernel
theorem d_M_after_12 : decode b_M_after 12 = .ok (.iconst (-1), 1) := by decide +kernel
theorem d_M_after_13 : decode b_M_after 13 = .ok (.ireturn, 1) := by decide +kernel
theorem d_M_after_14 : decode b_M_after 14 = .ok (.iload 4, 2) := by decide +kernel
theorem d_M_after_16 : decode b_M_after 16 = .ok (.iconst 1, 1) := by decide +kernel
theorem d_M_after_17 : decode b_M_after 17 = .ok (.isub, 1) := by decide +kernel
theorem d_M_after_18 : decode b_M_after 18 = .ok (.iconst 4, 1) := by decide +kernel
theorem d_M_after_19 : decode b_M_after 19 = .ok (.idiv, 1) := by decide +kernel
theorem d_M_after_20 : decode b_M_after 20 = .ok (.istore 5, 2) := by decide +kernel
theorem d_M_after_22 : decode b_M_after 22 = .ok (.iload 4, 2) := by decide +kernel
theorem d_M_after_24 : decode b_M_after 24 = .ok (.iconst 1, 1) := by decide +kernel
theorem d_M_after_25 : decode b_M_after 25 = .ok (.isub, 1) := by decide +kernel
theorem d_M_after_26 : decode b_M_after 26 = .ok (.iconst 4, 1) := by decide +kernel
theorem d_M_after_27 : decode b_M_after 27 = .ok (.irem, 1) := by decide +kernel
theorem d_M_after_28 : decode b_M_after 28 = .ok (.istore 6, 2) := by decide +kernel
theorem d_M_after_30 : decode b_M_after 30 = .ok (.iload_n 3, 1) := by decide +kernel
theorem d_M_after_31 : decode b_M_after 31 = .ok (.iconst 5, 1) := by decide +kernel
theorem d_M_after_32 : decode b_M_after 32 = .ok (.if_icmp .eq 16, 3) := by decide +kernel
theorem d_M_after_35 : decode b_M_after 35 = .ok (.iload_n 3, 1) := by decide +kernel
theorem d_M_after_36 : decode b_M_after 36 = .ok (.iload_n 2, 1) := by decide +kernel
theorem d_M_after_37 : decode b_M_after 37 = .ok (.if_icmp .eq 11, 3) := by decide +kernel
theorem d_M_after_40 : decode b_M_after 40 = .ok (.iload_n 1, 1) := by decide +kernel
theorem d_M_after_41 : decode b_M_after 41 = .ok (.iload_n 3, 1) := by decide +kernel
theorem d_M_after_42 : decode b_M_after 42 = .ok (.invokestatic 91, 3) := by decide +kernel
theorem d_M_after_45 : decode b_M_after 45 = .ok (.ifCond .ne 7, 3) := by decide +kernel
theorem d_M_after_48 : decode b_M_after 48 = .ok (.iconst 1, 1) := by decide +kernel
theorem d_M_after_49 : decode b_M_after 49 = .ok (.goto 4, 3) := by decide +kernel
theorem d_M_after_52 : decode b_M_after 52 = .ok (.iconst 0, 1) := by decide +kernel
theorem d_M_after_53 : decode b_M_after 53 = .ok (.istore 7, 2) := by decide +kernel
theorem d_M_after_55 : decode b_M_after 55 = .ok (.iload 7, 2) := by decide +kernel
theorem d_M_after_57 : decode b_M_after 57 = .ok (.ifCond .eq 16, 3) := by decide +kernel
theorem d_M_after_60 : decode b_M_after 60 = .ok (.aload_n 0, 1) := by decide +kernel
theorem d_M_after_61 : decode b_M_after 61 = .ok (.iload 5, 2) := by decide +kernel
theorem d_M_after_63 : decode b_M_after 63 = .ok (.iload 6, 2) := by decide +kernel
theorem d_M_after_65 : decode b_M_after 65 = .ok (.iload_n 2, 1) := by decide +kernel
theorem d_M_after_66 : decode b_M_after 66 = .ok (.iload_n 3, 1) := by decide +kernel
theorem d_M_after_67 : decode b_M_after 67 = .ok (.invokevirtual 95, 3) := by decide +kernel
theorem d_M_after_70 : decode b_M_after 70 = .ok (.ifCond .ne 5, 3) := by decide +kernel
theorem d_M_after_73 : decode b_M_after 73 = .ok (.iconst (-1), 1) := by decide +kernel
theorem d_M_after_74 : decode b_M_after 74 = .ok (.ireturn, 1) := by decide +kernel
theorem d_M_after_75 : decode b_M_after 75 = .ok (.iload_n 1, 1) := by decide +kernel
theorem d_M_after_76 : decode b_M_after 76 = .ok (.iload 4, 2) := by decide +kernel
theorem d_M_after_78 : decode b_M_after 78 = .ok (.iload_n 2, 1) := by decide +kernel
theorem d_M_after_79 : decode b_M_after 79 = .ok (.invokestatic 84, 3) := by decide +kernel
theorem d_M_after_82 : decode b_M_after 82 = .ok (.imul, 1) := by decide +kernel
theorem d_M_after_83 : decode b_M_after 83 = .ok (.isub, 1) := by decide +kernel
theorem d_M_after_84 : decode b_M_after 84 = .ok (.istore 8, 2) := by decide +kernel
theorem d_M_after_86 : decode b_M_after 86 = .ok (.iload_n 3, 1) := by decide +kernel
theorem d_M_after_87 : decode b_M_after 87 = .ok (.iconst 5, 1) := by decide +kernel
theorem d_M_after_88 : decode b_M_after 88 = .ok (.if_icmp .ne 8, 3) := by decide +kernel
theorem d_M_after_91 : decode b_M_after 91 = .ok (.iload 8, 2) := by decide +kernel
theorem d_M_after_93 : decode b_M_after 93 = .ok (.goto 25, 3) := by decide +kernel
theorem d_M_after_96 : decode b_M_after 96 = .ok (.iload 8, 2) := by decide +kernel
theorem d_M_after_98 : decode b_M_after 98 = .ok (.iload_n 3, 1) := by decide +kernel
theorem d_M_after_99 : decode b_M_after 99 = .ok (.invokestatic 84, 3) := by decide +kernel
theorem d_M_after_102 : decode b_M_after 102 = .ok (.iload_n 3, 1) := by decide +kernel
theorem d_M_after_103 : decode b_M_after 103 = .ok (.iconst 4, 1) := by decide +kernel
theorem d_M_after_104 : decode b_M_after 104 = .ok (.if_icmp .ge 10, 3) := by decide +kernel
theorem d_M_after_107 : decode b_M_after 107 = .ok (.iload 4, 2) := by decide +kernel
theorem d_M_after_109 : decode b_M_after 109 = .ok (.iconst 1, 1) := by decide +kernel
theorem d_M_after_110 : decode b_M_after 110 = .ok (.iadd, 1) := by decide +kernel
theorem d_M_after_111 : decode b_M_after 111 = .ok (.goto 5, 3) := by decide +kernel
theorem d_M_after_114 : decode b_M_after 114 = .ok (.iload 4, 2) := by decide +kernel
theorem d_M_after_116 : decode b_M_after 116 = .ok (.imul, 1) := by decide +kernel
theorem d_M_after_117 : decode b_M_after 117 = .ok (.iadd, 1) := by decide +kernel
theorem d_M_after_118 : decode b_M_after 118 = .ok (.ireturn, 1) := by decide +kernel
theorem d_M_knownOf_0 : decode b_M_knownOf 0 = .ok (.aload_n 0, 1) := by decide +kernel
theorem d_M_knownOf_1 : decode b_M_knownOf 1 = .ok (.getfield 53, 3) := by decide +kernel
theorem d_M_knownOf_4 : decode b_M_knownOf 4 = .ok (.iload_n 1, 1) := by decide +kernel
theorem d_M_knownOf_5 : decode b_M_knownOf 5 = .ok (.bipush 16, 2) := by decide +kernel
theorem d_M_knownOf_7 : decode b_M_knownOf 7 = .ok (.idiv, 1) := by decide +kernel
theorem d_M_knownOf_8 : decode b_M_knownOf 8 = .ok (.iaload, 1) := by decide +kernel
theorem d_M_knownOf_9 : decode b_M_knownOf 9 = .ok (.iconst 2, 1) := by decide +kernel
theorem d_M_knownOf_10 : decode b_M_knownOf 10 = .ok (.iload_n 1, 1) := by decide +kernel
theorem d_M_knownOf_11 : decode b_M_knownOf 11 = .ok (.bipush 16, 2) := by decide +kernel
theorem d_M_knownOf_13 : decode b_M_knownOf 13 = .ok (.irem, 1) := by decide +kernel
theorem d_M_knownOf_14 : decode b_M_knownOf 14 = .ok (.imul, 1) := by decide +kernel
theorem d_M_knownOf_15 : decode b_M_knownOf 15 = .ok (.ishr, 1) := by decide +kernel
theorem d_M_knownOf_16 : decode b_M_knownOf 16 = .ok (.iconst 3, 1) := by decide +kernel
theorem d_M_knownOf_17 : decode b_M_knownOf 17 = .ok (.iand, 1) := by decide +kernel
theorem d_M_knownOf_18 : decode b_M_knownOf 18 = .ok (.ireturn, 1) := by decide +kernel
theorem d_M_know_0 : decode b_M_know 0 = .ok (.aload_n 0, 1) := by decide +kernel
theorem d_M_know_1 : decode b_M_know 1 = .ok (.getfield 53, 3) := by decide +kernel
theorem d_M_know_4 : decode b_M_know 4 = .ok (.iload_n 1, 1) := by decide +kernel
theorem d_M_know_5 : decode b_M_know 5 = .ok (.bipush 16, 2) := by decide +kernel
theorem d_M_know_7 : decode b_M_know 7 = .ok (.idiv, 1) := by decide +kernel
theorem d_M_know_8 : decode b_M_know 8 = .ok (.dup2, 1) := by decide +kernel
theorem d_M_know_9 : decode b_M_know 9 = .ok (.iaload, 1) := by decide +kernel
theorem d_M_know_10 : decode b_M_know 10 = .ok (.iload_n 2, 1) := by decide +kernel
theorem d_M_know_11 : decode b_M_know 11 = .ok (.iconst 2, 1) := by decide +kernel
theorem d_M_know_12 : decode b_M_know 12 = .ok (.iload_n 1, 1) := by decide +kernel
theorem d_M_know_13 : decode b_M_know 13 = .ok (.bipush 16, 2) := by decide +kernel
theorem d_M_know_15 : decode b_M_know 15 = .ok (.irem, 1) := by decide +kernel
theorem d_M_know_16 : decode b_M_know 16 = .ok (.imul, 1) := by decide +kernel
theorem d_M_know_17 : decode b_M_know 17 = .ok (.ishl, 1) := by decide +kernel
theorem d_M_know_18 : decode b_M_know 18 = .ok (.ior, 1) := by decide +kernel
theorem d_M_know_19 : decode b_M_know 19 = .ok (.iastore, 1) := by decide +kernel
theorem d_M_know_20 : decode b_M_know 20 = .ok (.return_, 1) := by decide +kernel
theorem d_M_canBeEmptied_0 : decode b_M_canBeEmptied 0 = .ok (.iconst 0, 1) := by decide +kernel
theorem d_M_canBeEmptied_1 : decode b_M_canBeEmptied 1 = .ok (.istore_n 2, 1) := by decide +kernel
theorem d_M_canBeEmptied_2 : decode b_M_canBeEmptied 2 = .ok (.iload_n 2, 1) := by decide +kernel
theorem d_M_canBeEmptied_3 : decode b_M_canBeEmptied 3 = .ok (.sipush 3691, 3) := by decide +kernel
theorem d_M_canBeEmptied_6 : decode b_M_canBeEmptied 6 = .ok (.if_icmp .ge 23, 3) := by decide +kernel
theorem d_M_canBeEmptied_9 : decode b_M_canBeEmptied 9 = .ok (.aload_n 0, 1) := by decide +kernel
theorem d_M_canBeEmptied_10 : decode b_M_canBeEmptied 10 = .ok (.getfield 70, 3) := by decide +kernel
theorem d_M_canBeEmptied_13 : decode b_M_canBeEmptied 13 = .ok (.ifCond .eq 16, 3) := by decide +kernel
theorem d_M_canBeEmptied_16 : decode b_M_canBeEmptied 16 = .ok (.aload_n 0, 1) := by decide +kernel
theorem d_M_canBeEmptied_17 : decode b_M_canBeEmptied 17 = .ok (.getfield 53, 3) := by decide +kernel
theorem d_M_canBeEmptied_20 : decode b_M_canBeEmptied 20 = .ok (.iload_n 2, 1) := by decide +kernel
theorem d_M_canBeEmptied_21 : decode b_M_canBeEmptied 21 = .ok (.iconst 0, 1) := by decide +kernel
theorem d_M_canBeEmptied_22 : decode b_M_canBeEmptied 22 = .ok (.iastore, 1) := by decide +kernel
theorem d_M_canBeEmptied_23 : decode b_M_canBeEmptied 23 = .ok (.iinc 2 1, 3) := by decide +kernel
theorem d_M_canBeEmptied_26 : decode b_M_canBeEmptied 26 = .ok (.goto (-24), 3) := by decide +kernel
theorem d_M_canBeEmptied_29 : decode b_M_canBeEmptied 29 = .ok (.aload_n 0, 1) := by decide +kernel
theorem d_M_canBeEmptied_30 : decode b_M_canBeEmptied 30 = .ok (.iconst 0, 1) := by decide +kernel
theorem d_M_canBeEmptied_31 : decode b_M_canBeEmptied 31 = .ok (.putfield 70, 3) := by decide +kernel
theorem d_M_canBeEmptied_34 : decode b_M_canBeEmptied 34 = .ok (.iconst 0, 1) := by decide +kernel
theorem d_M_canBeEmptied_35 : decode b_M_canBeEmptied 35 = .ok (.istore_n 2, 1) := by decide +kernel
theorem d_M_canBeEmptied_36 : decode b_M_canBeEmptied 36 = .ok (.aload_n 0, 1) := by decide +kernel
theorem d_M_canBeEmptied_37 : decode b_M_canBeEmptied 37 = .ok (.getfield 56, 3) := by decide +kernel
theorem d_M_canBeEmptied_40 : decode b_M_canBeEmptied 40 = .ok (.iconst 0, 1) := by decide +kernel
theorem d_M_canBeEmptied_41 : decode b_M_canBeEmptied 41 = .ok (.iload_n 1, 1) := by decide +kernel
theorem d_M_canBeEmptied_42 : decode b_M_canBeEmptied 42 = .ok (.iastore, 1) := by decide +kernel
theorem d_M_canBeEmptied_43 : decode b_M_canBeEmptied 43 = .ok (.aload_n 0, 1) := by decide +kernel
theorem d_M_canBeEmptied_44 : decode b_M_canBeEmptied 44 = .ok (.getfield 59, 3) := by decide +kernel
theorem d_M_canBeEmptied_47 : decode b_M_canBeEmptied 47 = .ok (.iconst 0, 1) := by decide +kernel
theorem d_M_canBeEmptied_48 : decode b_M_canBeEmptied 48 = .ok (.iconst 0, 1) := by decide +kernel
theorem d_M_canBeEmptied_49 : decode b_M_canBeEmptied 49 = .ok (.iastore, 1) := by decide +kernel
theorem d_M_canBeEmptied_50 : decode b_M_canBeEmptied 50 = .ok (.iload_n 2, 1) := by decide +kernel
theorem d_M_canBeEmptied_51 : decode b_M_canBeEmptied 51 = .ok (.ifCond .lt 151, 3) := by decide +kernel
theorem d_M_canBeEmptied_54 : decode b_M_canBeEmptied 54 = .ok (.aload_n 0, 1) := by decide +kernel
theorem d_M_canBeEmptied_55 : decode b_M_canBeEmptied 55 = .ok (.getfield 56, 3) := by decide +kernel
theorem d_M_canBeEmptied_58 : decode b_M_canBeEmptied 58 = .ok (.iload_n 2, 1) := by decide +kernel
theorem d_M_canBeEmptied_59 : decode b_M_canBeEmptied 59 = .ok (.iaload, 1) := by decide +kernel
theorem d_M_canBeEmptied_60 : decode b_M_canBeEmptied 60 = .ok (.istore_n 3, 1) := by decide +kernel
theorem d_M_canBeEmptied_61 : decode b_M_canBeEmptied 61 = .ok (.aload_n 0, 1) := by decide +kernel
theorem d_M_canBeEmptied_62 : decode b_M_canBeEmptied 62 = .ok (.iload_n 3, 1) := by decide +kernel
theorem d_M_canBeEmptied_63 : decode b_M_canBeEmptied 63 = .ok (.invokevirtual 99, 3) := by decide +kernel
theorem d_M_canBeEmptied_66 : decode b_M_canBeEmptied 66 = .ok (.ifCond .ne 17, 3) := by decide +kernel
theorem d_M_canBeEmptied_69 : decode b_M_canBeEmptied 69 = .ok (.aload_n 0, 1) := by decide +kernel
theorem d_M_canBeEmptied_70 : decode b_M_canBeEmptied 70 = .ok (.iload_n 3, 1) := by decide +kernel
theorem d_M_canBeEmptied_71 : decode b_M_canBeEmptied 71 = .ok (.invokevirtual 102, 3) := by decide +kernel
theorem d_M_canBeEmptied_74 : decode b_M_canBeEmptied 74 = .ok (.ifCond .eq 9, 3) := by decide +kernel
theorem d_M_canBeEmptied_77 : decode b_M_canBeEmptied 77 = .ok (.aload_n 0, 1) := by decide +kernel
theorem d_M_canBeEmptied_78 : decode b_M_canBeEmptied 78 = .ok (.iload_n 3, 1) := by decide +kernel
theorem d_M_canBeEmptied_79 : decode b_M_canBeEmptied 79 = .ok (.iconst 1, 1) := by decide +kernel
theorem d_M_canBeEmptied_80 : decode b_M_canBeEmptied 80 = .ok (.invokevirtual 105, 3) := by decide +kernel
theorem d_M_canBeEmptied_83 : decode b_M_canBeEmptied 83 = .ok (.aload_n 0, 1) := by decide +kernel
theorem d_M_canBeEmptied_84 : decode b_M_canBeEmptied 84 = .ok (.iload_n 3, 1) := by decide +kernel
theorem d_M_canBeEmptied_85 : decode b_M_canBeEmptied 85 = .ok (.invokevirtual 99, 3) := by decide +kernel
theorem d_M_canBeEmptied_88 : decode b_M_canBeEmptied 88 = .ok (.ifCond .eq 33, 3) := by decide +kernel
theorem d_M_canBeEmptied_91 : decode b_M_canBeEmptied 91 = .ok (.iinc 2 (-1), 3) := by decide +kernel
theorem d_M_canBeEmptied_94 : decode b_M_canBeEmptied 94 = .ok (.iload_n 2, 1) := by decide +kernel
theorem d_M_canBeEmptied_95 : decode b_M_canBeEmptied 95 = .ok (.ifCond .lt 104, 3) := by decide +kernel
theorem d_M_canBeEmptied_98 : decode b_M_canBeEmptied 98 = .ok (.aload_n 0, 1) := by decide +kernel
theorem d_M_canBeEmptied_99 : decode b_M_canBeEmptied 99 = .ok (.iload_n 3, 1) := by decide +kernel
theorem d_M_canBeEmptied_100 : decode b_M_canBeEmptied 100 = .ok (.invokevirtual 99, 3) := by decide +kernel
theorem d_M_canBeEmptied_103 : decode b_M_canBeEmptied 103 = .ok (.iconst 1, 1) := by decide +kernel
theorem d_M_canBeEmptied_104 : decode b_M_canBeEmptied 104 = .ok (.if_icmp .ne 95, 3) := by decide +kernel
theorem d_M_canBeEmptied_107 : decode b_M_canBeEmptied 107 = .ok (.aload_n 0, 1) := by decide +kernel
theorem d_M_canBeEmptied_108 : decode b_M_canBeEmptied 108 = .ok (.aload_n 0, 1) := by decide +kernel
theorem d_M_canBeEmptied_109 : decode b_M_canBeEmptied 109 = .ok (.getfield 56, 3) := by decide +kernel
theorem d_M_canBeEmptied_112 : decode b_M_canBeEmptied 112 = .ok (.iload_n 2, 1) := by decide +kernel
theorem d_M_canBeEmptied_113 : decode b_M_canBeEmptied 113 = .ok (.iaload, 1) := by decide +kernel
theorem d_M_canBeEmptied_114 : decode b_M_canBeEmptied 114 = .ok (.iconst 1, 1) := by decide +kernel
theorem d_M_canBeEmptied_115 : decode b_M_canBeEmptied 115 = .ok (.invokevirtual 105, 3) := by decide +kernel
theorem d_M_canBeEmptied_118 : decode b_M_canBeEmptied 118 = .ok (.goto 81, 3) := by decide +kernel
theorem d_M_canBeEmptied_121 : decode b_M_canBeEmptied 121 = .ok (.aload_n 0, 1) := by decide +kernel
theorem d_M_canBeEmptied_122 : decode b_M_canBeEmptied 122 = .ok (.getfield 59, 3) := by decide +kernel
theorem d_M_canBeEmptied_125 : decode b_M_canBeEmptied 125 = .ok (.iload_n 2, 1) := by decide +kernel
theorem d_M_canBeEmptied_126 : decode b_M_canBeEmptied 126 = .ok (.iaload, 1) := by decide +kernel
theorem d_M_canBeEmptied_127 : decode b_M_canBeEmptied 127 = .ok (.bipush 30, 2) := by decide +kernel
theorem d_M_canBeEmptied_129 : decode b_M_canBeEmptied 129 = .ok (.if_icmp .ne 12, 3) := by decide +kernel
theorem d_M_canBeEmptied_132 : decode b_M_canBeEmptied 132 = .ok (.aload_n 0, 1) := by decide +kernel
theorem d_M_canBeEmptied_133 : decode b_M_canBeEmptied 133 = .ok (.iload_n 3, 1) := by decide +kernel
theorem d_M_canBeEmptied_134 : decode b_M_canBeEmptied 134 = .ok (.iconst 2, 1) := by decide +kernel
theorem d_M_canBeEmptied_135 : decode b_M_canBeEmptied 135 = .ok (.invokevirtual 105, 3) := by decide +kernel
theorem d_M_canBeEmptied_138 : decode b_M_canBeEmptied 138 = .ok (.goto 61, 3) := by decide +kernel
theorem d_M_canBeEmptied_141 : decode b_M_canBeEmptied 141 = .ok (.aload_n 0, 1) := by decide +kernel
theorem d_M_canBeEmptied_142 : decode b_M_canBeEmptied 142 = .ok (.iload_n 3, 1) := by decide +kernel
theorem d_M_canBeEmptied_143 : decode b_M_canBeEmptied 143 = .ok (.aload_n 0, 1) := by decide +kernel
theorem d_M_canBeEmptied_144 : decode b_M_canBeEmptied 144 = .ok (.getfield 59, 3) := by decide +kernel
theorem d_M_canBeEmptied_147 : decode b_M_canBeEmptied 147 = .ok (.iload_n 2, 1) := by decide +kernel
theorem d_M_canBeEmptied_148 : decode b_M_canBeEmptied 148 = .ok (.iaload, 1) := by decide +kernel
theorem d_M_canBeEmptied_149 : decode b_M_canBeEmptied 149 = .ok (.bipush 6, 2) := by decide +kernel
theorem d_M_canBeEmptied_151 : decode b_M_canBeEmptied 151 = .ok (.idiv, 1) := by decide +kernel
theorem d_M_canBeEmptied_152 : decode b_M_canBeEmptied 152 = .ok (.aload_n 0, 1) := by decide +kernel
theorem d_M_canBeEmptied_153 : decode b_M_canBeEmptied 153 = .ok (.getfield 59, 3) := by decide +kernel
theorem d_M_canBeEmptied_156 : decode b_M_canBeEmptied 156 = .ok (.iload_n 2, 1) := by decide +kernel
theorem d_M_canBeEmptied_157 : decode b_M_canBeEmptied 157 = .ok (.iaload, 1) := by decide +kernel
theorem d_M_canBeEmptied_158 : decode b_M_canBeEmptied 158 = .ok (.bipush 6, 2) := by decide +kernel
theorem d_M_canBeEmptied_160 : decode b_M_canBeEmptied 160 = .ok (.irem, 1) := by decide +kernel
theorem d_M_canBeEmptied_161 : decode b_M_canBeEmptied 161 = .ok (.invokevirtual 109, 3) := by decide +kernel
theorem d_M_canBeEmptied_164 : decode b_M_canBeEmptied 164 = .ok (.istore 4, 2) := by decide +kernel
theorem d_M_canBeEmptied_166 : decode b_M_canBeEmptied 166 = .ok (.aload_n 0, 1) := by decide +kernel
theorem d_M_canBeEmptied_167 : decode b_M_canBeEmptied 167 = .ok (.getfield 59, 3) := by decide +kernel
theorem d_M_canBeEmptied_170 : decode b_M_canBeEmptied 170 = .ok (.iload_n 2, 1) := by decide +kernel
theorem d_M_canBeEmptied_171 : decode b_M_canBeEmptied 171 = .ok (.dup2, 1) := by decide +kernel
theorem d_M_canBeEmptied_172 : decode b_M_canBeEmptied 172 = .ok (.iaload, 1) := by decide +kernel
theorem d_M_canBeEmptied_173 : decode b_M_canBeEmptied 173 = .ok (.iconst 1, 1) := by decide +kernel
theorem d_M_canBeEmptied_174 : decode b_M_canBeEmptied 174 = .ok (.iadd, 1) := by decide +kernel
theorem d_M_canBeEmptied_175 : decode b_M_canBeEmptied 175 = .ok (.iastore, 1) := by decide +kernel
theorem d_M_canBeEmptied_176 : decode b_M_canBeEmptied 176 = .ok (.iload 4, 2) := by decide +kernel
theorem d_M_canBeEmptied_178 : decode b_M_canBeEmptied 178 = .ok (.ifCond .lt 21, 3) := by decide +kernel
theorem d_M_canBeEmptied_181 : decode b_M_canBeEmptied 181 = .ok (.iinc 2 1, 3) := by decide +kernel
theorem d_M_canBeEmptied_184 : decode b_M_canBeEmptied 184 = .ok (.aload_n 0, 1) := by decide +kernel
theorem d_M_canBeEmptied_185 : decode b_M_canBeEmptied 185 = .ok (.getfield 56, 3) := by decide +kernel
theorem d_M_canBeEmptied_188 : decode b_M_canBeEmptied 188 = .ok (.iload_n 2, 1) := by decide +kernel
theorem d_M_canBeEmptied_189 : decode b_M_canBeEmptied 189 = .ok (.iload 4, 2) := by decide +kernel
theorem d_M_canBeEmptied_191 : decode b_M_canBeEmptied 191 = .ok (.iastore, 1) := by decide +kernel
theorem d_M_canBeEmptied_192 : decode b_M_canBeEmptied 192 = .ok (.aload_n 0, 1) := by decide +kernel
theorem d_M_canBeEmptied_193 : decode b_M_canBeEmptied 193 = .ok (.getfield 59, 3) := by decide +kernel
theorem d_M_canBeEmptied_196 : decode b_M_canBeEmptied 196 = .ok (.iload_n 2, 1) := by decide +kernel
theorem d_M_canBeEmptied_197 : decode b_M_canBeEmptied 197 = .ok (.iconst 0, 1) := by decide +kernel
theorem d_M_canBeEmptied_198 : decode b_M_canBeEmptied 198 = .ok (.iastore, 1) := by decide +kernel
theorem d_M_canBeEmptied_199 : decode b_M_canBeEmptied 199 = .ok (.goto (-149), 3) := by decide +kernel
theorem d_M_canBeEmptied_202 : decode b_M_canBeEmptied 202 = .ok (.aload_n 0, 1) := by decide +kernel
theorem d_M_canBeEmptied_203 : decode b_M_canBeEmptied 203 = .ok (.iload_n 1, 1) := by decide +kernel
theorem d_M_canBeEmptied_204 : decode b_M_canBeEmptied 204 = .ok (.invokevirtual 99, 3) := by decide +kernel
theorem d_M_canBeEmptied_207 : decode b_M_canBeEmptied 207 = .ok (.iconst 1, 1) := by decide +kernel
theorem d_M_canBeEmptied_208 : decode b_M_canBeEmptied 208 = .ok (.if_icmp .ne 7, 3) := by decide +kernel
theorem d_M_canBeEmptied_211 : decode b_M_canBeEmptied 211 = .ok (.iconst 1, 1) := by decide +kernel
theorem d_M_canBeEmptied_212 : decode b_M_canBeEmptied 212 = .ok (.goto 4, 3) := by decide +kernel
theorem d_M_canBeEmptied_215 : decode b_M_canBeEmptied 215 = .ok (.iconst 0, 1) := by decide +kernel
theorem d_M_canBeEmptied_216 : decode b_M_canBeEmptied 216 = .ok (.ireturn, 1) := by decide +kernel
theorem d_M_safe_0 : decode b_M_safe 0 = .ok (.aload_n 0, 1) := by decide +kernel
theorem d_M_safe_1 : decode b_M_safe 1 = .ok (.aload_n 0, 1) := by decide +kernel
theorem d_M_safe_2 : decode b_M_safe 2 = .ok (.invokevirtual 113, 3) := by decide +kernel
theorem d_M_safe_5 : decode b_M_safe 5 = .ok (.invokevirtual 117, 3) := by decide +kernel
theorem d_M_safe_8 : decode b_M_safe 8 = .ok (.ireturn, 1) := by decide +kernel
theorem d_M_inPlace_0 : decode b_M_inPlace 0 = .ok (.iconst (-1), 1) := by decide +kernel
theorem d_M_inPlace_1 : decode b_M_inPlace 1 = .ok (.istore_n 2, 1) := by decide +kernel
theorem d_M_inPlace_2 : decode b_M_inPlace 2 = .ok (.iconst 0, 1) := by decide +kernel
theorem d_M_inPlace_3 : decode b_M_inPlace 3 = .ok (.istore_n 3, 1) := by decide +kernel
theorem d_M_inPlace_4 : decode b_M_inPlace 4 = .ok (.iload_n 3, 1) := by decide +kernel
theorem d_M_inPlace_5 : decode b_M_inPlace 5 = .ok (.aload_n 0, 1) := by decide +kernel
theorem d_M_inPlace_6 : decode b_M_inPlace 6 = .ok (.getfield 66, 3) := by decide +kernel
theorem d_M_inPlace_9 : decode b_M_inPlace 9 = .ok (.if_icmp .ge 30, 3) := by decide +kernel
theorem d_M_inPlace_12 : decode b_M_inPlace 12 = .ok (.iload_n 1, 1) := by decide +kernel
theorem d_M_inPlace_13 : decode b_M_inPlace 13 = .ok (.iconst 5, 1) := by decide +kernel
theorem d_M_inPlace_14 : decode b_M_inPlace 14 = .ok (.if_icmp .ge 17, 3) := by decide +kernel
theorem d_M_inPlace_17 : decode b_M_inPlace 17 = .ok (.aload_n 0, 1) := by decide +kernel
theorem d_M_inPlace_18 : decode b_M_inPlace 18 = .ok (.getfield 28, 3) := by decide +kernel
theorem d_M_inPlace_21 : decode b_M_inPlace 21 = .ok (.iload_n 3, 1) := by decide +kernel
theorem d_M_inPlace_22 : decode b_M_inPlace 22 = .ok (.iaload, 1) := by decide +kernel
theorem d_M_inPlace_23 : decode b_M_inPlace 23 = .ok (.iload_n 1, 1) := by decide +kernel
theorem d_M_inPlace_24 : decode b_M_inPlace 24 = .ok (.if_icmp .ne 7, 3) := by decide +kernel
theorem d_M_inPlace_27 : decode b_M_inPlace 27 = .ok (.iload_n 3, 1) := by decide +kernel
theorem d_M_inPlace_28 : decode b_M_inPlace 28 = .ok (.goto 4, 3) := by decide +kernel
theorem d_M_inPlace_31 : decode b_M_inPlace 31 = .ok (.iload_n 2, 1) := by decide +kernel
theorem d_M_inPlace_32 : decode b_M_inPlace 32 = .ok (.istore_n 2, 1) := by decide +kernel
theorem d_M_inPlace_33 : decode b_M_inPlace 33 = .ok (.iinc 3 1, 3) := by decide +kernel
theorem d_M_inPlace_36 : decode b_M_inPlace 36 = .ok (.goto (-32), 3) := by decide +kernel
theorem d_M_inPlace_39 : decode b_M_inPlace 39 = .ok (.iload_n 2, 1) := by decide +kernel
theorem d_M_inPlace_40 : decode b_M_inPlace 40 = .ok (.ireturn, 1) := by decide +kernel
theorem d_M_byFront_0 : decode b_M_byFront 0 = .ok (.iload_n 0, 1) := by decide +kernel
theorem d_M_byFront_1 : decode b_M_byFront 1 = .ok (.invokestatic 74, 3) := by decide +kernel
theorem d_M_byFront_4 : decode b_M_byFront 4 = .ok (.ifCond .eq 14, 3) := by decide +kernel
theorem d_M_byFront_7 : decode b_M_byFront 7 = .ok (.iload_n 1, 1) := by decide +kernel
theorem d_M_byFront_8 : decode b_M_byFront 8 = .ok (.invokestatic 74, 3) := by decide +kernel
theorem d_M_byFront_11 : decode b_M_byFront 11 = .ok (.ifCond .eq 7, 3) := by decide +kernel
theorem d_M_byFront_14 : decode b_M_byFront 14 = .ok (.iconst 1, 1) := by decide +kernel
theorem d_M_byFront_15 : decode b_M_byFront 15 = .ok (.goto 4, 3) := by decide +kernel
theorem d_M_byFront_18 : decode b_M_byFront 18 = .ok (.iconst 0, 1) := by decide +kernel
theorem d_M_byFront_19 : decode b_M_byFront 19 = .ok (.ireturn, 1) := by decide +kernel
theorem d_M_may_0 : decode b_M_may 0 = .ok (.aload_n 0, 1) := by decide +kernel
theorem d_M_may_1 : decode b_M_may 1 = .ok (.iload_n 1, 1) := by decide +kernel
theorem d_M_may_2 : decode b_M_may 2 = .ok (.invokevirtual 120, 3) := by decide +kernel
theorem d_M_may_5 : decode b_M_may 5 = .ok (.ifCond .eq 12, 3) := by decide +kernel
theorem d_M_may_8 : decode b_M_may 8 = .ok (.iload_n 2, 1) := by decide +kernel
theorem d_M_may_9 : decode b_M_may 9 = .ok (.ifCond .lt 8, 3) := by decide +kernel
theorem d_M_may_12 : decode b_M_may 12 = .ok (.iload_n 2, 1) := by decide +kernel
theorem d_M_may_13 : decode b_M_may 13 = .ok (.iconst 5, 1) := by decide +kernel
theorem d_M_may_14 : decode b_M_may 14 = .ok (.if_icmp .le 5, 3) := by decide +kernel
theorem d_M_may_17 : decode b_M_may 17 = .ok (.iconst (-1), 1) := by decide +kernel
theorem d_M_may_18 : decode b_M_may 18 = .ok (.ireturn, 1) := by decide +kernel
theorem d_M_may_19 : decode b_M_may 19 = .ok (.aload_n 0, 1) := by decide +kernel
theorem d_M_may_20 : decode b_M_may 20 = .ok (.getfield 28, 3) := by decide +kernel
theorem d_M_may_23 : decode b_M_may 23 = .ok (.iload_n 1, 1) := by decide +kernel
theorem d_M_may_24 : decode b_M_may 24 = .ok (.iaload, 1) := by decide +kernel
theorem d_M_may_25 : decode b_M_may 25 = .ok (.istore_n 3, 1) := by decide +kernel
theorem d_M_may_26 : decode b_M_may 26 = .ok (.aload_n 0, 1) := by decide +kernel
theorem d_M_may_27 : decode b_M_may 27 = .ok (.getfield 31, 3) := by decide +kernel
theorem d_M_may_30 : decode b_M_may 30 = .ok (.iload_n 1, 1) := by decide +kernel
theorem d_M_may_31 : decode b_M_may 31 = .ok (.iaload, 1) := by decide +kernel
theorem d_M_may_32 : decode b_M_may 32 = .ok (.ifCond .gt 11, 3) := by decide +kernel
theorem d_M_may_35 : decode b_M_may 35 = .ok (.aload_n 0, 1) := by decide +kernel
theorem d_M_may_36 : decode b_M_may 36 = .ok (.iload_n 1, 1) := by decide +kernel
theorem d_M_may_37 : decode b_M_may 37 = .ok (.invokevirtual 123, 3) := by decide +kernel
theorem d_M_may_40 : decode b_M_may 40 = .ok (.ifCond .eq 5, 3) := by decide +kernel
theorem d_M_may_43 : decode b_M_may 43 = .ok (.iconst 1, 1) := by decide +kernel
theorem d_M_may_44 : decode b_M_may 44 = .ok (.ireturn, 1) := by decide +kernel
theorem d_M_may_45 : decode b_M_may 45 = .ok (.aload_n 0, 1) := by decide +kernel
theorem d_M_may_46 : decode b_M_may 46 = .ok (.aload_n 0, 1) := by decide +kernel
theorem d_M_may_47 : decode b_M_may 47 = .ok (.getfield 22, 3) := by decide +kernel
theorem d_M_may_50 : decode b_M_may 50 = .ok (.iload_n 1, 1) := by decide +kernel
theorem d_M_may_51 : decode b_M_may 51 = .ok (.iaload, 1) := by decide +kernel
