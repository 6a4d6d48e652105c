theorem d_M_may_52 : decode b_M_may 52 = .ok (.aload_n 0, 1) := by decide +kernel
theorem d_M_may_53 : decode b_M_may 53 = .ok (.getfield 25, 3) := by decide +kernel
theorem d_M_may_56 : decode b_M_may 56 = .ok (.iload_n 1, 1) := by decide +kernel
theorem d_M_may_57 : decode b_M_may 57 = .ok (.iaload, 1) := by decide +kernel
theorem d_M_may_58 : decode b_M_may 58 = .ok (.iload_n 3, 1) := by decide +kernel
theorem d_M_may_59 : decode b_M_may 59 = .ok (.iload_n 2, 1) := by decide +kernel
theorem d_M_may_60 : decode b_M_may 60 = .ok (.invokevirtual 95, 3) := by decide +kernel
theorem d_M_may_63 : decode b_M_may 63 = .ok (.ifCond .ne 5, 3) := by decide +kernel
theorem d_M_may_66 : decode b_M_may 66 = .ok (.iconst 2, 1) := by decide +kernel
theorem d_M_may_67 : decode b_M_may 67 = .ok (.ireturn, 1) := by decide +kernel
theorem d_M_may_68 : decode b_M_may 68 = .ok (.aload_n 0, 1) := by decide +kernel
theorem d_M_may_69 : decode b_M_may 69 = .ok (.iload_n 2, 1) := by decide +kernel
theorem d_M_may_70 : decode b_M_may 70 = .ok (.invokevirtual 126, 3) := by decide +kernel
theorem d_M_may_73 : decode b_M_may 73 = .ok (.istore 4, 2) := by decide +kernel
theorem d_M_may_75 : decode b_M_may 75 = .ok (.iload 4, 2) := by decide +kernel
theorem d_M_may_77 : decode b_M_may 77 = .ok (.ifCond .lt 11, 3) := by decide +kernel
theorem d_M_may_80 : decode b_M_may 80 = .ok (.iload 4, 2) := by decide +kernel
theorem d_M_may_82 : decode b_M_may 82 = .ok (.iload_n 1, 1) := by decide +kernel
theorem d_M_may_83 : decode b_M_may 83 = .ok (.if_icmp .eq 5, 3) := by decide +kernel
theorem d_M_may_86 : decode b_M_may 86 = .ok (.iconst 3, 1) := by decide +kernel
theorem d_M_may_87 : decode b_M_may 87 = .ok (.ireturn, 1) := by decide +kernel
theorem d_M_may_88 : decode b_M_may 88 = .ok (.aload_n 0, 1) := by decide +kernel
theorem d_M_may_89 : decode b_M_may 89 = .ok (.iload_n 1, 1) := by decide +kernel
theorem d_M_may_90 : decode b_M_may 90 = .ok (.invokevirtual 88, 3) := by decide +kernel
theorem d_M_may_93 : decode b_M_may 93 = .ok (.istore 5, 2) := by decide +kernel
theorem d_M_may_95 : decode b_M_may 95 = .ok (.aload_n 0, 1) := by decide +kernel
theorem d_M_may_96 : decode b_M_may 96 = .ok (.invokevirtual 113, 3) := by decide +kernel
theorem d_M_may_99 : decode b_M_may 99 = .ok (.iload_n 3, 1) := by decide +kernel
theorem d_M_may_100 : decode b_M_may 100 = .ok (.iconst 5, 1) := by decide +kernel
theorem d_M_may_101 : decode b_M_may 101 = .ok (.if_icmp .ge 13, 3) := by decide +kernel
theorem d_M_may_104 : decode b_M_may 104 = .ok (.iload 5, 2) := by decide +kernel
theorem d_M_may_106 : decode b_M_may 106 = .ok (.iload_n 3, 1) := by decide +kernel
theorem d_M_may_107 : decode b_M_may 107 = .ok (.invokestatic 84, 3) := by decide +kernel
theorem d_M_may_110 : decode b_M_may 110 = .ok (.imul, 1) := by decide +kernel
theorem d_M_may_111 : decode b_M_may 111 = .ok (.goto 4, 3) := by decide +kernel
theorem d_M_may_114 : decode b_M_may 114 = .ok (.iconst 0, 1) := by decide +kernel
theorem d_M_may_115 : decode b_M_may 115 = .ok (.isub, 1) := by decide +kernel
theorem d_M_may_116 : decode b_M_may 116 = .ok (.istore 6, 2) := by decide +kernel
theorem d_M_may_118 : decode b_M_may 118 = .ok (.iload_n 2, 1) := by decide +kernel
theorem d_M_may_119 : decode b_M_may 119 = .ok (.iconst 5, 1) := by decide +kernel
theorem d_M_may_120 : decode b_M_may 120 = .ok (.if_icmp .ne 8, 3) := by decide +kernel
theorem d_M_may_123 : decode b_M_may 123 = .ok (.iload 6, 2) := by decide +kernel
theorem d_M_may_125 : decode b_M_may 125 = .ok (.goto 25, 3) := by decide +kernel
theorem d_M_may_128 : decode b_M_may 128 = .ok (.iload 6, 2) := by decide +kernel
theorem d_M_may_130 : decode b_M_may 130 = .ok (.iload_n 2, 1) := by decide +kernel
theorem d_M_may_131 : decode b_M_may 131 = .ok (.invokestatic 84, 3) := by decide +kernel
theorem d_M_may_134 : decode b_M_may 134 = .ok (.iload_n 2, 1) := by decide +kernel
theorem d_M_may_135 : decode b_M_may 135 = .ok (.iconst 4, 1) := by decide +kernel
theorem d_M_may_136 : decode b_M_may 136 = .ok (.if_icmp .ge 10, 3) := by decide +kernel
theorem d_M_may_139 : decode b_M_may 139 = .ok (.iload 5, 2) := by decide +kernel
theorem d_M_may_141 : decode b_M_may 141 = .ok (.iconst 1, 1) := by decide +kernel
theorem d_M_may_142 : decode b_M_may 142 = .ok (.iadd, 1) := by decide +kernel
theorem d_M_may_143 : decode b_M_may 143 = .ok (.goto 5, 3) := by decide +kernel
theorem d_M_may_146 : decode b_M_may 146 = .ok (.iload 5, 2) := by decide +kernel
theorem d_M_may_148 : decode b_M_may 148 = .ok (.imul, 1) := by decide +kernel
theorem d_M_may_149 : decode b_M_may 149 = .ok (.iadd, 1) := by decide +kernel
theorem d_M_may_150 : decode b_M_may 150 = .ok (.istore 6, 2) := by decide +kernel
theorem d_M_may_152 : decode b_M_may 152 = .ok (.aload_n 0, 1) := by decide +kernel
theorem d_M_may_153 : decode b_M_may 153 = .ok (.iload 6, 2) := by decide +kernel
theorem d_M_may_155 : decode b_M_may 155 = .ok (.invokevirtual 117, 3) := by decide +kernel
theorem d_M_may_158 : decode b_M_may 158 = .ok (.ifCond .ne 5, 3) := by decide +kernel
theorem d_M_may_161 : decode b_M_may 161 = .ok (.iconst 4, 1) := by decide +kernel
theorem d_M_may_162 : decode b_M_may 162 = .ok (.ireturn, 1) := by decide +kernel
theorem d_M_may_163 : decode b_M_may 163 = .ok (.iload_n 3, 1) := by decide +kernel
theorem d_M_may_164 : decode b_M_may 164 = .ok (.iload_n 2, 1) := by decide +kernel
theorem d_M_may_165 : decode b_M_may 165 = .ok (.invokestatic 129, 3) := by decide +kernel
theorem d_M_may_168 : decode b_M_may 168 = .ok (.ifCond .eq 13, 3) := by decide +kernel
theorem d_M_may_171 : decode b_M_may 171 = .ok (.aload_n 0, 1) := by decide +kernel
theorem d_M_may_172 : decode b_M_may 172 = .ok (.getfield 132, 3) := by decide +kernel
theorem d_M_may_175 : decode b_M_may 175 = .ok (.ifCond .eq 17, 3) := by decide +kernel
theorem d_M_may_178 : decode b_M_may 178 = .ok (.goto 10, 3) := by decide +kernel
theorem d_M_may_181 : decode b_M_may 181 = .ok (.aload_n 0, 1) := by decide +kernel
theorem d_M_may_182 : decode b_M_may 182 = .ok (.getfield 135, 3) := by decide +kernel
theorem d_M_may_185 : decode b_M_may 185 = .ok (.ifCond .eq 7, 3) := by decide +kernel
theorem d_M_may_188 : decode b_M_may 188 = .ok (.iconst 5, 1) := by decide +kernel
theorem d_M_may_189 : decode b_M_may 189 = .ok (.goto 4, 3) := by decide +kernel
theorem d_M_may_192 : decode b_M_may 192 = .ok (.iconst 0, 1) := by decide +kernel
theorem d_M_may_193 : decode b_M_may 193 = .ok (.ireturn, 1) := by decide +kernel
theorem d_M_move_0 : decode b_M_move 0 = .ok (.aload_n 0, 1) := by decide +kernel
theorem d_M_move_1 : decode b_M_move 1 = .ok (.iload_n 1, 1) := by decide +kernel
theorem d_M_move_2 : decode b_M_move 2 = .ok (.iload_n 2, 1) := by decide +kernel
theorem d_M_move_3 : decode b_M_move 3 = .ok (.invokevirtual 138, 3) := by decide +kernel
theorem d_M_move_6 : decode b_M_move 6 = .ok (.istore_n 3, 1) := by decide +kernel
theorem d_M_move_7 : decode b_M_move 7 = .ok (.iload_n 3, 1) := by decide +kernel
theorem d_M_move_8 : decode b_M_move 8 = .ok (.ifCond .eq 5, 3) := by decide +kernel
theorem d_M_move_11 : decode b_M_move 11 = .ok (.iload_n 3, 1) := by decide +kernel
theorem d_M_move_12 : decode b_M_move 12 = .ok (.ireturn, 1) := by decide +kernel
theorem d_M_move_13 : decode b_M_move 13 = .ok (.aload_n 0, 1) := by decide +kernel
theorem d_M_move_14 : decode b_M_move 14 = .ok (.getfield 28, 3) := by decide +kernel
theorem d_M_move_17 : decode b_M_move 17 = .ok (.iload_n 1, 1) := by decide +kernel
theorem d_M_move_18 : decode b_M_move 18 = .ok (.iaload, 1) := by decide +kernel
theorem d_M_move_19 : decode b_M_move 19 = .ok (.iload_n 2, 1) := by decide +kernel
theorem d_M_move_20 : decode b_M_move 20 = .ok (.invokestatic 129, 3) := by decide +kernel
theorem d_M_move_23 : decode b_M_move 23 = .ok (.ifCond .eq 21, 3) := by decide +kernel
theorem d_M_move_26 : decode b_M_move 26 = .ok (.aload_n 0, 1) := by decide +kernel
theorem d_M_move_27 : decode b_M_move 27 = .ok (.iconst 1, 1) := by decide +kernel
theorem d_M_move_28 : decode b_M_move 28 = .ok (.putfield 132, 3) := by decide +kernel
theorem d_M_move_31 : decode b_M_move 31 = .ok (.aload_n 0, 1) := by decide +kernel
theorem d_M_move_32 : decode b_M_move 32 = .ok (.dup, 1) := by decide +kernel
theorem d_M_move_33 : decode b_M_move 33 = .ok (.getfield 141, 3) := by decide +kernel
theorem d_M_move_36 : decode b_M_move 36 = .ok (.iconst 1, 1) := by decide +kernel
theorem d_M_move_37 : decode b_M_move 37 = .ok (.iadd, 1) := by decide +kernel
theorem d_M_move_38 : decode b_M_move 38 = .ok (.putfield 141, 3) := by decide +kernel
theorem d_M_move_41 : decode b_M_move 41 = .ok (.goto 18, 3) := by decide +kernel
theorem d_M_move_44 : decode b_M_move 44 = .ok (.aload_n 0, 1) := by decide +kernel
theorem d_M_move_45 : decode b_M_move 45 = .ok (.iconst 1, 1) := by decide +kernel
theorem d_M_move_46 : decode b_M_move 46 = .ok (.putfield 135, 3) := by decide +kernel
theorem d_M_move_49 : decode b_M_move 49 = .ok (.aload_n 0, 1) := by decide +kernel
theorem d_M_move_50 : decode b_M_move 50 = .ok (.dup, 1) := by decide +kernel
theorem d_M_move_51 : decode b_M_move 51 = .ok (.getfield 144, 3) := by decide +kernel
theorem d_M_move_54 : decode b_M_move 54 = .ok (.iconst 1, 1) := by decide +kernel
theorem d_M_move_55 : decode b_M_move 55 = .ok (.iadd, 1) := by decide +kernel
theorem d_M_move_56 : decode b_M_move 56 = .ok (.putfield 144, 3) := by decide +kernel
theorem d_M_move_59 : decode b_M_move 59 = .ok (.aload_n 0, 1) := by decide +kernel
theorem d_M_move_60 : decode b_M_move 60 = .ok (.getfield 28, 3) := by decide +kernel
theorem d_M_move_63 : decode b_M_move 63 = .ok (.iload_n 1, 1) := by decide +kernel
theorem d_M_move_64 : decode b_M_move 64 = .ok (.iload_n 2, 1) := by decide +kernel
theorem d_M_move_65 : decode b_M_move 65 = .ok (.iastore, 1) := by decide +kernel
theorem d_M_move_66 : decode b_M_move 66 = .ok (.iload_n 2, 1) := by decide +kernel
theorem d_M_move_67 : decode b_M_move 67 = .ok (.iconst 4, 1) := by decide +kernel
theorem d_M_move_68 : decode b_M_move 68 = .ok (.if_icmp .ge 85, 3) := by decide +kernel
theorem d_M_move_71 : decode b_M_move 71 = .ok (.iconst 3, 1) := by decide +kernel
theorem d_M_move_72 : decode b_M_move 72 = .ok (.iload_n 1, 1) := by decide +kernel
theorem d_M_move_73 : decode b_M_move 73 = .ok (.imul, 1) := by decide +kernel
theorem d_M_move_74 : decode b_M_move 74 = .ok (.aload_n 0, 1) := by decide +kernel
theorem d_M_move_75 : decode b_M_move 75 = .ok (.getfield 25, 3) := by decide +kernel
theorem d_M_move_78 : decode b_M_move 78 = .ok (.iload_n 1, 1) := by decide +kernel
theorem d_M_move_79 : decode b_M_move 79 = .ok (.iaload, 1) := by decide +kernel
theorem d_M_move_80 : decode b_M_move 80 = .ok (.iadd, 1) := by decide +kernel
theorem d_M_move_81 : decode b_M_move 81 = .ok (.istore 4, 2) := by decide +kernel
theorem d_M_move_83 : decode b_M_move 83 = .ok (.aload_n 0, 1) := by decide +kernel
theorem d_M_move_84 : decode b_M_move 84 = .ok (.getfield 41, 3) := by decide +kernel
theorem d_M_move_87 : decode b_M_move 87 = .ok (.iload 4, 2) := by decide +kernel
theorem d_M_move_89 : decode b_M_move 89 = .ok (.iload_n 2, 1) := by decide +kernel
theorem d_M_move_90 : decode b_M_move 90 = .ok (.iastore, 1) := by decide +kernel
theorem d_M_move_91 : decode b_M_move 91 = .ok (.aload_n 0, 1) := by decide +kernel
theorem d_M_move_92 : decode b_M_move 92 = .ok (.getfield 44, 3) := by decide +kernel
theorem d_M_move_95 : decode b_M_move 95 = .ok (.iload 4, 2) := by decide +kernel
theorem d_M_move_97 : decode b_M_move 97 = .ok (.aload_n 0, 1) := by decide +kernel
theorem d_M_move_98 : decode b_M_move 98 = .ok (.getfield 147, 3) := by decide +kernel
theorem d_M_move_101 : decode b_M_move 101 = .ok (.iastore, 1) := by decide +kernel
theorem d_M_move_102 : decode b_M_move 102 = .ok (.aload_n 0, 1) := by decide +kernel
theorem d_M_move_103 : decode b_M_move 103 = .ok (.getfield 47, 3) := by decide +kernel
theorem d_M_move_106 : decode b_M_move 106 = .ok (.iload 4, 2) := by decide +kernel
theorem d_M_move_108 : decode b_M_move 108 = .ok (.iconst (-1), 1) := by decide +kernel
theorem d_M_move_109 : decode b_M_move 109 = .ok (.iastore, 1) := by decide +kernel
theorem d_M_move_110 : decode b_M_move 110 = .ok (.aload_n 0, 1) := by decide +kernel
theorem d_M_move_111 : decode b_M_move 111 = .ok (.getfield 31, 3) := by decide +kernel
theorem d_M_move_114 : decode b_M_move 114 = .ok (.iload_n 1, 1) := by decide +kernel
theorem d_M_move_115 : decode b_M_move 115 = .ok (.aload_n 0, 1) := by decide +kernel
theorem d_M_move_116 : decode b_M_move 116 = .ok (.getfield 16, 3) := by decide +kernel
theorem d_M_move_119 : decode b_M_move 119 = .ok (.iconst 3, 1) := by decide +kernel
theorem d_M_move_120 : decode b_M_move 120 = .ok (.aload_n 0, 1) := by decide +kernel
theorem d_M_move_121 : decode b_M_move 121 = .ok (.getfield 22, 3) := by decide +kernel
theorem d_M_move_124 : decode b_M_move 124 = .ok (.iload_n 1, 1) := by decide +kernel
theorem d_M_move_125 : decode b_M_move 125 = .ok (.iaload, 1) := by decide +kernel
theorem d_M_move_126 : decode b_M_move 126 = .ok (.imul, 1) := by decide +kernel
theorem d_M_move_127 : decode b_M_move 127 = .ok (.aload_n 0, 1) := by decide +kernel
theorem d_M_move_128 : decode b_M_move 128 = .ok (.getfield 25, 3) := by decide +kernel
theorem d_M_move_131 : decode b_M_move 131 = .ok (.iload_n 1, 1) := by decide +kernel
theorem d_M_move_132 : decode b_M_move 132 = .ok (.iaload, 1) := by decide +kernel
theorem d_M_move_133 : decode b_M_move 133 = .ok (.iadd, 1) := by decide +kernel
theorem d_M_move_134 : decode b_M_move 134 = .ok (.iaload, 1) := by decide +kernel
theorem d_M_move_135 : decode b_M_move 135 = .ok (.iastore, 1) := by decide +kernel
theorem d_M_move_136 : decode b_M_move 136 = .ok (.aload_n 0, 1) := by decide +kernel
theorem d_M_move_137 : decode b_M_move 137 = .ok (.getfield 34, 3) := by decide +kernel
theorem d_M_move_140 : decode b_M_move 140 = .ok (.iload_n 1, 1) := by decide +kernel
theorem d_M_move_141 : decode b_M_move 141 = .ok (.iconst 0, 1) := by decide +kernel
theorem d_M_move_142 : decode b_M_move 142 = .ok (.iastore, 1) := by decide +kernel
theorem d_M_move_143 : decode b_M_move 143 = .ok (.aload_n 0, 1) := by decide +kernel
theorem d_M_move_144 : decode b_M_move 144 = .ok (.getfield 25, 3) := by decide +kernel
theorem d_M_move_147 : decode b_M_move 147 = .ok (.iload_n 1, 1) := by decide +kernel
theorem d_M_move_148 : decode b_M_move 148 = .ok (.dup2, 1) := by decide +kernel
theorem d_M_move_149 : decode b_M_move 149 = .ok (.iaload, 1) := by decide +kernel
theorem d_M_move_150 : decode b_M_move 150 = .ok (.iconst 1, 1) := by decide +kernel
theorem d_M_move_151 : decode b_M_move 151 = .ok (.iadd, 1) := by decide +kernel
theorem d_M_move_152 : decode b_M_move 152 = .ok (.iastore, 1) := by decide +kernel
theorem d_M_move_153 : decode b_M_move 153 = .ok (.iconst 0, 1) := by decide +kernel
theorem d_M_move_154 : decode b_M_move 154 = .ok (.ireturn, 1) := by decide +kernel
theorem d_M_stay_0 : decode b_M_stay 0 = .ok (.aload_n 0, 1) := by decide +kernel
theorem d_M_stay_1 : decode b_M_stay 1 = .ok (.iload_n 1, 1) := by decide +kernel
theorem d_M_stay_2 : decode b_M_stay 2 = .ok (.invokevirtual 120, 3) := by decide +kernel
theorem d_M_stay_5 : decode b_M_stay 5 = .ok (.ifCond .eq 13, 3) := by decide +kernel
theorem d_M_stay_8 : decode b_M_stay 8 = .ok (.aload_n 0, 1) := by decide +kernel
theorem d_M_stay_9 : decode b_M_stay 9 = .ok (.getfield 28, 3) := by decide +kernel
theorem d_M_stay_12 : decode b_M_stay 12 = .ok (.iload_n 1, 1) := by decide +kernel
theorem d_M_stay_13 : decode b_M_stay 13 = .ok (.iaload, 1) := by decide +kernel
theorem d_M_stay_14 : decode b_M_stay 14 = .ok (.iconst 3, 1) := by decide +kernel
theorem d_M_stay_15 : decode b_M_stay 15 = .ok (.if_icmp .le 5, 3) := by decide +kernel
theorem d_M_stay_18 : decode b_M_stay 18 = .ok (.iconst (-1), 1) := by decide +kernel
theorem d_M_stay_19 : decode b_M_stay 19 = .ok (.ireturn, 1) := by decide +kernel
theorem d_M_stay_20 : decode b_M_stay 20 = .ok (.aload_n 0, 1) := by decide +kernel
theorem d_M_stay_21 : decode b_M_stay 21 = .ok (.getfield 19, 3) := by decide +kernel
theorem d_M_stay_24 : decode b_M_stay 24 = .ok (.iconst 3, 1) := by decide +kernel
theorem d_M_stay_25 : decode b_M_stay 25 = .ok (.aload_n 0, 1) := by decide +kernel
theorem d_M_stay_26 : decode b_M_stay 26 = .ok (.getfield 22, 3) := by decide +kernel
theorem d_M_stay_29 : decode b_M_stay 29 = .ok (.iload_n 1, 1) := by decide +kernel
theorem d_M_stay_30 : decode b_M_stay 30 = .ok (.iaload, 1) := by decide +kernel
theorem d_M_stay_31 : decode b_M_stay 31 = .ok (.imul, 1) := by decide +kernel
theorem d_M_stay_32 : decode b_M_stay 32 = .ok (.aload_n 0, 1) := by decide +kernel
theorem d_M_stay_33 : decode b_M_stay 33 = .ok (.getfield 25, 3) := by decide +kernel
theorem d_M_stay_36 : decode b_M_stay 36 = .ok (.iload_n 1, 1) := by decide +kernel
theorem d_M_stay_37 : decode b_M_stay 37 = .ok (.iaload, 1) := by decide +kernel
theorem d_M_stay_38 : decode b_M_stay 38 = .ok (.iadd, 1) := by decide +kernel
theorem d_M_stay_39 : decode b_M_stay 39 = .ok (.iconst 1, 1) := by decide +kernel
theorem d_M_stay_40 : decode b_M_stay 40 = .ok (.isub, 1) := by decide +kernel
theorem d_M_stay_41 : decode b_M_stay 41 = .ok (.iaload, 1) := by decide +kernel
theorem d_M_stay_42 : decode b_M_stay 42 = .ok (.istore_n 2, 1) := by decide +kernel
theorem d_M_stay_43 : decode b_M_stay 43 = .ok (.aload_n 0, 1) := by decide +kernel
theorem d_M_stay_44 : decode b_M_stay 44 = .ok (.getfield 31, 3) := by decide +kernel
theorem d_M_stay_47 : decode b_M_stay 47 = .ok (.iload_n 1, 1) := by decide +kernel
theorem d_M_stay_48 : decode b_M_stay 48 = .ok (.iaload, 1) := by decide +kernel
theorem d_M_stay_49 : decode b_M_stay 49 = .ok (.iload_n 2, 1) := by decide +kernel
theorem d_M_stay_50 : decode b_M_stay 50 = .ok (.iadd, 1) := by decide +kernel
theorem d_M_stay_51 : decode b_M_stay 51 = .ok (.aload_n 0, 1) := by decide +kernel
theorem d_M_stay_52 : decode b_M_stay 52 = .ok (.getfield 34, 3) := by decide +kernel
theorem d_M_stay_55 : decode b_M_stay 55 = .ok (.iload_n 1, 1) := by decide +kernel
theorem d_M_stay_56 : decode b_M_stay 56 = .ok (.iaload, 1) := by decide +kernel
theorem d_M_stay_57 : decode b_M_stay 57 = .ok (.isub, 1) := by decide +kernel
theorem d_M_stay_58 : decode b_M_stay 58 = .ok (.istore_n 3, 1) := by decide +kernel
theorem d_M_stay_59 : decode b_M_stay 59 = .ok (.iload_n 2, 1) := by decide +kernel
theorem d_M_stay_60 : decode b_M_stay 60 = .ok (.ifCond .ne 7, 3) := by decide +kernel
theorem d_M_stay_63 : decode b_M_stay 63 = .ok (.iconst (-1), 1) := by decide +kernel
theorem d_M_stay_64 : decode b_M_stay 64 = .ok (.goto 12, 3) := by decide +kernel
theorem d_M_stay_67 : decode b_M_stay 67 = .ok (.iload_n 3, 1) := by decide +kernel
theorem d_M_stay_68 : decode b_M_stay 68 = .ok (.ifCond .ge 7, 3) := by decide +kernel
theorem d_M_stay_71 : decode b_M_stay 71 = .ok (.iconst 0, 1) := by decide +kernel
theorem d_M_stay_72 : decode b_M_stay 72 = .ok (.goto 4, 3) := by decide +kernel
theorem d_M_stay_75 : decode b_M_stay 75 = .ok (.iload_n 3, 1) := by decide +kernel
theorem d_M_stay_76 : decode b_M_stay 76 = .ok (.ireturn, 1) := by decide +kernel
theorem d_M_rank_0 : decode b_M_rank 0 = .ok (.aload_n 0, 1) := by decide +kernel
theorem d_M_rank_1 : decode b_M_rank 1 = .ok (.iload_n 1, 1) := by decide +kernel
theorem d_M_rank_2 : decode b_M_rank 2 = .ok (.invokevirtual 150, 3) := by decide +kernel
theorem d_M_rank_5 : decode b_M_rank 5 = .ok (.istore_n 2, 1) := by decide +kernel
theorem d_M_rank_6 : decode b_M_rank 6 = .ok (.aload_n 0, 1) := by decide +kernel
theorem d_M_rank_7 : decode b_M_rank 7 = .ok (.getfield 28, 3) := by decide +kernel
theorem d_M_rank_10 : decode b_M_rank 10 = .ok (.iload_n 1, 1) := by decide +kernel
theorem d_M_rank_11 : decode b_M_rank 11 = .ok (.iaload, 1) := by decide +kernel
theorem d_M_rank_12 : decode b_M_rank 12 = .ok (.iconst 5, 1) := by decide +kernel
theorem d_M_rank_13 : decode b_M_rank 13 = .ok (.if_icmp .ne 9, 3) := by decide +kernel
theorem d_M_rank_16 : decode b_M_rank 16 = .ok (.sipush 2000, 3) := by decide +kernel
theorem d_M_rank_19 : decode b_M_rank 19 = .ok (.goto 14, 3) := by decide +kernel
theorem d_M_rank_22 : decode b_M_rank 22 = .ok (.iload_n 2, 1) := by decide +kernel
theorem d_M_rank_23 : decode b_M_rank 23 = .ok (.ifCond .ge 9, 3) := by decide +kernel
theorem d_M_rank_26 : decode b_M_rank 26 = .ok (.sipush 1000, 3) := by decide +kernel
theorem d_M_rank_29 : decode b_M_rank 29 = .ok (.goto 4, 3) := by decide +kernel
theorem d_M_rank_32 : decode b_M_rank 32 = .ok (.iload_n 2, 1) := by decide +kernel
theorem d_M_rank_33 : decode b_M_rank 33 = .ok (.ireturn, 1) := by decide +kernel
theorem d_M_next_0 : decode b_M_next 0 = .ok (.iconst (-1), 1) := by decide +kernel
theorem d_M_next_1 : decode b_M_next 1 = .ok (.istore_n 1, 1) := by decide +kernel
theorem d_M_next_2 : decode b_M_next 2 = .ok (.sipush 3000, 3) := by decide +kernel
theorem d_M_next_5 : decode b_M_next 5 = .ok (.istore_n 2, 1) := by decide +kernel
theorem d_M_next_6 : decode b_M_next 6 = .ok (.iconst 0, 1) := by decide +kernel
theorem d_M_next_7 : decode b_M_next 7 = .ok (.istore_n 3, 1) := by decide +kernel
theorem d_M_next_8 : decode b_M_next 8 = .ok (.iload_n 3, 1) := by decide +kernel
theorem d_M_next_9 : decode b_M_next 9 = .ok (.aload_n 0, 1) := by decide +kernel
theorem d_M_next_10 : decode b_M_next 10 = .ok (.getfield 66, 3) := by decide +kernel
theorem d_M_next_13 : decode b_M_next 13 = .ok (.if_icmp .ge 58, 3) := by decide +kernel
theorem d_M_next_16 : decode b_M_next 16 = .ok (.iconst 0, 1) := by decide +kernel
theorem d_M_next_17 : decode b_M_next 17 = .ok (.istore 4, 2) := by decide +kernel
theorem d_M_next_19 : decode b_M_next 19 = .ok (.iload 4, 2) := by decide +kernel
theorem d_M_next_21 : decode b_M_next 21 = .ok (.bipush 6, 2) := by decide +kernel
theorem d_M_next_23 : decode b_M_next 23 = .ok (.if_icmp .ge 42, 3) := by decide +kernel
theorem d_M_next_26 : decode b_M_next 26 = .ok (.aload_n 0, 1) := by decide +kernel
theorem d_M_next_27 : decode b_M_next 27 = .ok (.iload_n 3, 1) := by decide +kernel
theorem d_M_next_28 : decode b_M_next 28 = .ok (.invokevirtual 153, 3) := by decide +kernel
theorem d_M_next_31 : decode b_M_next 31 = .ok (.iload_n 2, 1) := by decide +kernel
theorem d_M_next_32 : decode b_M_next 32 = .ok (.if_icmp .ge 33, 3) := by decide +kernel
theorem d_M_next_35 : decode b_M_next 35 = .ok (.aload_n 0, 1) := by decide +kernel
theorem d_M_next_36 : decode b_M_next 36 = .ok (.iload_n 3, 1) := by decide +kernel
theorem d_M_next_37 : decode b_M_next 37 = .ok (.iload 4, 2) := by decide +kernel
theorem d_M_next_39 : decode b_M_next 39 = .ok (.invokevirtual 138, 3) := by decide +kernel
theorem d_M_next_42 : decode b_M_next 42 = .ok (.ifCond .ne 17, 3) := by decide +kernel
theorem d_M_next_45 : decode b_M_next 45 = .ok (.bipush 8, 2) := by decide +kernel
theorem d_M_next_47 : decode b_M_next 47 = .ok (.iload_n 3, 1) := by decide +kernel
theorem d_M_next_48 : decode b_M_next 48 = .ok (.imul, 1) := by decide +kernel
theorem d_M_next_49 : decode b_M_next 49 = .ok (.iload 4, 2) := by decide +kernel
theorem d_M_next_51 : decode b_M_next 51 = .ok (.iadd, 1) := by decide +kernel
theorem d_M_next_52 : decode b_M_next 52 = .ok (.istore_n 1, 1) := by decide +kernel
theorem d_M_next_53 : decode b_M_next 53 = .ok (.aload_n 0, 1) := by decide +kernel
theorem d_M_next_54 : decode b_M_next 54 = .ok (.iload_n 3, 1) := by decide +kernel
theorem d_M_next_55 : decode b_M_next 55 = .ok (.invokevirtual 153, 3) := by decide +kernel
theorem d_M_next_58 : decode b_M_next 58 = .ok (.istore_n 2, 1) := by decide +kernel
theorem d_M_next_59 : decode b_M_next 59 = .ok (.iinc 4 1, 3) := by decide +kernel
theorem d_M_next_62 : decode b_M_next 62 = .ok (.goto (-43), 3) := by decide +kernel
theorem d_M_next_65 : decode b_M_next 65 = .ok (.iinc 3 1, 3) := by decide +kernel
theorem d_M_next_68 : decode b_M_next 68 = .ok (.goto (-60), 3) := by decide +kernel
theorem d_M_next_71 : decode b_M_next 71 = .ok (.iload_n 1, 1) := by decide +kernel
theorem d_M_next_72 : decode b_M_next 72 = .ok (.ireturn, 1) := by decide +kernel
theorem d_M_go_0 : decode b_M_go 0 = .ok (.aload_n 0, 1) := by decide +kernel
theorem d_M_go_1 : decode b_M_go 1 = .ok (.invokevirtual 156, 3) := by decide +kernel
theorem d_M_go_4 : decode b_M_go 4 = .ok (.istore_n 1, 1) := by decide +kernel
theorem d_M_go_5 : decode b_M_go 5 = .ok (.iload_n 1, 1) := by decide +kernel
theorem d_M_go_6 : decode b_M_go 6 = .ok (.ifCond .lt 16, 3) := by decide +kernel
theorem d_M_go_9 : decode b_M_go 9 = .ok (.aload_n 0, 1) := by decide +kernel
theorem d_M_go_10 : decode b_M_go 10 = .ok (.iload_n 1, 1) := by decide +kernel
theorem d_M_go_11 : decode b_M_go 11 = .ok (.bipush 8, 2) := by decide +kernel
theorem d_M_go_13 : decode b_M_go 13 = .ok (.idiv, 1) := by decide +kernel
theorem d_M_go_14 : decode b_M_go 14 = .ok (.iload_n 1, 1) := by decide +kernel
theorem d_M_go_15 : decode b_M_go 15 = .ok (.bipush 8, 2) := by decide +kernel
theorem d_M_go_17 : decode b_M_go 17 = .ok (.irem, 1) := by decide +kernel
theorem d_M_go_18 : decode b_M_go 18 = .ok (.invokevirtual 159, 3) := by decide +kernel
theorem d_M_go_21 : decode b_M_go 21 = .ok (.istore_n 2, 1) := by decide +kernel
theorem d_M_go_22 : decode b_M_go 22 = .ok (.iload_n 1, 1) := by decide +kernel
theorem d_M_go_23 : decode b_M_go 23 = .ok (.ireturn, 1) := by decide +kernel
theorem d_M_ages_0 : decode b_M_ages 0 = .ok (.aload_n 0, 1) := by decide +kernel
theorem d_M_ages_1 : decode b_M_ages 1 = .ok (.getfield 28, 3) := by decide +kernel
theorem d_M_ages_4 : decode b_M_ages 4 = .ok (.iload_n 1, 1) := by decide +kernel
theorem d_M_ages_5 : decode b_M_ages 5 = .ok (.iaload, 1) := by decide +kernel
theorem d_M_ages_6 : decode b_M_ages 6 = .ok (.iconst 3, 1) := by decide +kernel
theorem d_M_ages_7 : decode b_M_ages 7 = .ok (.if_icmp .gt 17, 3) := by decide +kernel
theorem d_M_ages_10 : decode b_M_ages 10 = .ok (.aload_n 0, 1) := by decide +kernel
theorem d_M_ages_11 : decode b_M_ages 11 = .ok (.getfield 50, 3) := by decide +kernel
theorem d_M_ages_14 : decode b_M_ages 14 = .ok (.aload_n 0, 1) := by decide +kernel
theorem d_M_ages_15 : decode b_M_ages 15 = .ok (.getfield 28, 3) := by decide +kernel
theorem d_M_ages_18 : decode b_M_ages 18 = .ok (.iload_n 1, 1) := by decide +kernel
theorem d_M_ages_19 : decode b_M_ages 19 = .ok (.iaload, 1) := by decide +kernel
theorem d_M_ages_20 : decode b_M_ages 20 = .ok (.baload, 1) := by decide +kernel
theorem d_M_ages_21 : decode b_M_ages 21 = .ok (.ifCond .eq 5, 3) := by decide +kernel
theorem d_M_ages_24 : decode b_M_ages 24 = .ok (.iconst 0, 1) := by decide +kernel
theorem d_M_ages_25 : decode b_M_ages 25 = .ok (.ireturn, 1) := by decide +kernel
theorem d_M_ages_26 : decode b_M_ages 26 = .ok (.aload_n 0, 1) := by decide +kernel
theorem d_M_ages_27 : decode b_M_ages 27 = .ok (.getfield 31, 3) := by decide +kernel
theorem d_M_ages_30 : decode b_M_ages 30 = .ok (.iload_n 1, 1) := by decide +kernel
theorem d_M_ages_31 : decode b_M_ages 31 = .ok (.iaload, 1) := by decide +kernel
theorem d_M_ages_32 : decode b_M_ages 32 = .ok (.ifCond .le 49, 3) := by decide +kernel
theorem d_M_ages_35 : decode b_M_ages 35 = .ok (.aload_n 0, 1) := by decide +kernel
theorem d_M_ages_36 : decode b_M_ages 36 = .ok (.getfield 31, 3) := by decide +kernel
theorem d_M_ages_39 : decode b_M_ages 39 = .ok (.iload_n 1, 1) := by decide +kernel
theorem d_M_ages_40 : decode b_M_ages 40 = .ok (.dup2, 1) := by decide +kernel
theorem d_M_ages_41 : decode b_M_ages 41 = .ok (.iaload, 1) := by decide +kernel
theorem d_M_ages_42 : decode b_M_ages 42 = .ok (.iconst 1, 1) := by decide +kernel
theorem d_M_ages_43 : decode b_M_ages 43 = .ok (.isub, 1) := by decide +kernel
theorem d_M_ages_44 : decode b_M_ages 44 = .ok (.iastore, 1) := by decide +kernel
theorem d_M_ages_45 : decode b_M_ages 45 = .ok (.aload_n 0, 1) := by decide +kernel
theorem d_M_ages_46 : decode b_M_ages 46 = .ok (.getfield 47, 3) := by decide +kernel
theorem d_M_ages_49 : decode b_M_ages 49 = .ok (.iconst 3, 1) := by decide +kernel
theorem d_M_ages_50 : decode b_M_ages 50 = .ok (.iload_n 1, 1) := by decide +kernel
theorem d_M_ages_51 : decode b_M_ages 51 = .ok (.imul, 1) := by decide +kernel
theorem d_M_ages_52 : decode b_M_ages 52 = .ok (.aload_n 0, 1) := by decide +kernel
theorem d_M_ages_53 : decode b_M_ages 53 = .ok (.getfield 25, 3) := by decide +kernel
theorem d_M_ages_56 : decode b_M_ages 56 = .ok (.iload_n 1, 1) := by decide +kernel
theorem d_M_ages_57 : decode b_M_ages 57 = .ok (.iaload, 1) := by decide +kernel
theorem d_M_ages_58 : decode b_M_ages 58 = .ok (.iadd, 1) := by decide +kernel
theorem d_M_ages_59 : decode b_M_ages 59 = .ok (.iconst 1, 1) := by decide +kernel
theorem d_M_ages_60 : decode b_M_ages 60 = .ok (.isub, 1) := by decide +kernel
theorem d_M_ages_61 : decode b_M_ages 61 = .ok (.aload_n 0, 1) := by decide +kernel
theorem d_M_ages_62 : decode b_M_ages 62 = .ok (.getfield 31, 3) := by decide +kernel
theorem d_M_ages_65 : decode b_M_ages 65 = .ok (.iload_n 1, 1) := by decide +kernel
theorem d_M_ages_66 : decode b_M_ages 66 = .ok (.iaload, 1) := by decide +kernel
theorem d_M_ages_67 : decode b_M_ages 67 = .ok (.ifCond .ne 10, 3) := by decide +kernel
theorem d_M_ages_70 : decode b_M_ages 70 = .ok (.aload_n 0, 1) := by decide +kernel
theorem d_M_ages_71 : decode b_M_ages 71 = .ok (.getfield 147, 3) := by decide +kernel
theorem d_M_ages_74 : decode b_M_ages 74 = .ok (.goto 4, 3) := by decide +kernel
theorem d_M_ages_77 : decode b_M_ages 77 = .ok (.iconst (-1), 1) := by decide +kernel
theorem d_M_ages_78 : decode b_M_ages 78 = .ok (.iastore, 1) := by decide +kernel
theorem d_M_ages_79 : decode b_M_ages 79 = .ok (.iconst 0, 1) := by decide +kernel
theorem d_M_ages_80 : decode b_M_ages 80 = .ok (.ireturn, 1) := by decide +kernel
theorem d_M_ages_81 : decode b_M_ages 81 = .ok (.aload_n 0, 1) := by decide +kernel
theorem d_M_ages_82 : decode b_M_ages 82 = .ok (.getfield 34, 3) := by decide +kernel
theorem d_M_ages_85 : decode b_M_ages 85 = .ok (.iload_n 1, 1) := by decide +kernel
theorem d_M_ages_86 : decode b_M_ages 86 = .ok (.dup2, 1) := by decide +kernel
theorem d_M_ages_87 : decode b_M_ages 87 = .ok (.iaload, 1) := by decide +kernel
theorem d_M_ages_88 : decode b_M_ages 88 = .ok (.iconst 1, 1) := by decide +kernel
theorem d_M_ages_89 : decode b_M_ages 89 = .ok (.iadd, 1) := by decide +kernel
theorem d_M_ages_90 : decode b_M_ages 90 = .ok (.iastore, 1) := by decide +kernel
theorem d_M_ages_91 : decode b_M_ages 91 = .ok (.aload_n 0, 1) := by decide +kernel
theorem d_M_ages_92 : decode b_M_ages 92 = .ok (.getfield 19, 3) := by decide +kernel
theorem d_M_ages_95 : decode b_M_ages 95 = .ok (.iconst 3, 1) := by decide +kernel
theorem d_M_ages_96 : decode b_M_ages 96 = .ok (.aload_n 0, 1) := by decide +kernel
theorem d_M_ages_97 : decode b_M_ages 97 = .ok (.getfield 22, 3) := by decide +kernel
theorem d_M_ages_100 : decode b_M_ages 100 = .ok (.iload_n 1, 1) := by decide +kernel
theorem d_M_ages_101 : decode b_M_ages 101 = .ok (.iaload, 1) := by decide +kernel
theorem d_M_ages_102 : decode b_M_ages 102 = .ok (.imul, 1) := by decide +kernel
theorem d_M_ages_103 : decode b_M_ages 103 = .ok (.aload_n 0, 1) := by decide +kernel
theorem d_M_ages_104 : decode b_M_ages 104 = .ok (.getfield 25, 3) := by decide +kernel
theorem d_M_ages_107 : decode b_M_ages 107 = .ok (.iload_n 1, 1) := by decide +kernel
theorem d_M_ages_108 : decode b_M_ages 108 = .ok (.iaload, 1) := by decide +kernel
theorem d_M_ages_109 : decode b_M_ages 109 = .ok (.iadd, 1) := by decide +kernel
theorem d_M_ages_110 : decode b_M_ages 110 = .ok (.iconst 1, 1) := by decide +kernel
theorem d_M_ages_111 : decode b_M_ages 111 = .ok (.isub, 1) := by decide +kernel
theorem d_M_ages_112 : decode b_M_ages 112 = .ok (.iaload, 1) := by decide +kernel
theorem d_M_ages_113 : decode b_M_ages 113 = .ok (.istore_n 2, 1) := by decide +kernel
theorem d_M_ages_114 : decode b_M_ages 114 = .ok (.iload_n 2, 1) := by decide +kernel
theorem d_M_ages_115 : decode b_M_ages 115 = .ok (.ifCond .le 26, 3) := by decide +kernel
theorem d_M_ages_118 : decode b_M_ages 118 = .ok (.aload_n 0, 1) := by decide +kernel
theorem d_M_ages_119 : decode b_M_ages 119 = .ok (.getfield 34, 3) := by decide +kernel
theorem d_M_ages_122 : decode b_M_ages 122 = .ok (.iload_n 1, 1) := by decide +kernel
theorem d_M_ages_123 : decode b_M_ages 123 = .ok (.iaload, 1) := by decide +kernel
theorem d_M_ages_124 : decode b_M_ages 124 = .ok (.iload_n 2, 1) := by decide +kernel
theorem d_M_ages_125 : decode b_M_ages 125 = .ok (.if_icmp .le 16, 3) := by decide +kernel
theorem d_M_ages_128 : decode b_M_ages 128 = .ok (.aload_n 0, 1) := by decide +kernel
theorem d_M_ages_129 : decode b_M_ages 129 = .ok (.getfield 37, 3) := by decide +kernel
theorem d_M_ages_132 : decode b_M_ages 132 = .ok (.iload_n 1, 1) := by decide +kernel
theorem d_M_ages_133 : decode b_M_ages 133 = .ok (.baload, 1) := by decide +kernel
theorem d_M_ages_134 : decode b_M_ages 134 = .ok (.ifCond .ne 7, 3) := by decide +kernel
theorem d_M_ages_137 : decode b_M_ages 137 = .ok (.iconst 1, 1) := by decide +kernel
theorem d_M_ages_138 : decode b_M_ages 138 = .ok (.goto 4, 3) := by decide +kernel
theorem d_M_ages_141 : decode b_M_ages 141 = .ok (.iconst 0, 1) := by decide +kernel
theorem d_M_ages_142 : decode b_M_ages 142 = .ok (.istore_n 3, 1) := by decide +kernel
theorem d_M_ages_143 : decode b_M_ages 143 = .ok (.aload_n 0, 1) := by decide +kernel
theorem d_M_ages_144 : decode b_M_ages 144 = .ok (.getfield 37, 3) := by decide +kernel
theorem d_M_ages_147 : decode b_M_ages 147 = .ok (.iload_n 1, 1) := by decide +kernel
theorem d_M_ages_148 : decode b_M_ages 148 = .ok (.aload_n 0, 1) := by decide +kernel
theorem d_M_ages_149 : decode b_M_ages 149 = .ok (.getfield 37, 3) := by decide +kernel
theorem d_M_ages_152 : decode b_M_ages 152 = .ok (.iload_n 1, 1) := by decide +kernel
theorem d_M_ages_153 : decode b_M_ages 153 = .ok (.baload, 1) := by decide +kernel
theorem d_M_ages_154 : decode b_M_ages 154 = .ok (.ifCond .ne 7, 3) := by decide +kernel
theorem d_M_ages_157 : decode b_M_ages 157 = .ok (.iload_n 3, 1) := by decide +kernel
theorem d_M_ages_158 : decode b_M_ages 158 = .ok (.ifCond .eq 7, 3) := by decide +kernel
theorem d_M_ages_161 : decode b_M_ages 161 = .ok (.iconst 1, 1) := by decide +kernel
theorem d_M_ages_162 : decode b_M_ages 162 = .ok (.goto 4, 3) := by decide +kernel
theorem d_M_ages_165 : decode b_M_ages 165 = .ok (.iconst 0, 1) := by decide +kernel
theorem d_M_ages_166 : decode b_M_ages 166 = .ok (.bastore, 1) := by decide +kernel
theorem d_M_ages_167 : decode b_M_ages 167 = .ok (.iload_n 3, 1) := by decide +kernel
theorem d_M_ages_168 : decode b_M_ages 168 = .ok (.ireturn, 1) := by decide +kernel
theorem d_M_tick_0 : decode b_M_tick 0 = .ok (.iload_n 1, 1) := by decide +kernel
theorem d_M_tick_1 : decode b_M_tick 1 = .ok (.ifCond .lt 10, 3) := by decide +kernel
theorem d_M_tick_4 : decode b_M_tick 4 = .ok (.iload_n 1, 1) := by decide +kernel
theorem d_M_tick_5 : decode b_M_tick 5 = .ok (.sipush 200, 3) := by decide +kernel
theorem d_M_tick_8 : decode b_M_tick 8 = .ok (.if_icmp .le 5, 3) := by decide +kernel
theorem d_M_tick_11 : decode b_M_tick 11 = .ok (.iconst (-1), 1) := by decide +kernel
theorem d_M_tick_12 : decode b_M_tick 12 = .ok (.ireturn, 1) := by decide +kernel
theorem d_M_tick_13 : decode b_M_tick 13 = .ok (.iconst 0, 1) := by decide +kernel
theorem d_M_tick_14 : decode b_M_tick 14 = .ok (.istore_n 2, 1) := by decide +kernel
theorem d_M_tick_15 : decode b_M_tick 15 = .ok (.iconst 0, 1) := by decide +kernel
theorem d_M_tick_16 : decode b_M_tick 16 = .ok (.istore_n 3, 1) := by decide +kernel
theorem d_M_tick_17 : decode b_M_tick 17 = .ok (.iload_n 3, 1) := by decide +kernel
theorem d_M_tick_18 : decode b_M_tick 18 = .ok (.iload_n 1, 1) := by decide +kernel
theorem d_M_tick_19 : decode b_M_tick 19 = .ok (.if_icmp .ge 54, 3) := by decide +kernel
theorem d_M_tick_22 : decode b_M_tick 22 = .ok (.aload_n 0, 1) := by decide +kernel
theorem d_M_tick_23 : decode b_M_tick 23 = .ok (.dup, 1) := by decide +kernel
theorem d_M_tick_24 : decode b_M_tick 24 = .ok (.getfield 147, 3) := by decide +kernel
theorem d_M_tick_27 : decode b_M_tick 27 = .ok (.iconst 1, 1) := by decide +kernel
theorem d_M_tick_28 : decode b_M_tick 28 = .ok (.iadd, 1) := by decide +kernel
theorem d_M_tick_29 : decode b_M_tick 29 = .ok (.putfield 147, 3) := by decide +kernel
theorem d_M_tick_32 : decode b_M_tick 32 = .ok (.iconst 0, 1) := by decide +kernel
theorem d_M_tick_33 : decode b_M_tick 33 = .ok (.istore 4, 2) := by decide +kernel
theorem d_M_tick_35 : decode b_M_tick 35 = .ok (.iload 4, 2) := by decide +kernel
theorem d_M_tick_37 : decode b_M_tick 37 = .ok (.aload_n 0, 1) := by decide +kernel
theorem d_M_tick_38 : decode b_M_tick 38 = .ok (.getfield 66, 3) := by decide +kernel
theorem d_M_tick_41 : decode b_M_tick 41 = .ok (.if_icmp .ge 26, 3) := by decide +kernel
theorem d_M_tick_44 : decode b_M_tick 44 = .ok (.aload_n 0, 1) := by decide +kernel
theorem d_M_tick_45 : decode b_M_tick 45 = .ok (.iload 4, 2) := by decide +kernel
theorem d_M_tick_47 : decode b_M_tick 47 = .ok (.invokevirtual 162, 3) := by decide +kernel
theorem d_M_tick_50 : decode b_M_tick 50 = .ok (.ifCond .eq 9, 3) := by decide +kernel
theorem d_M_tick_53 : decode b_M_tick 53 = .ok (.iload_n 2, 1) := by decide +kernel
theorem d_M_tick_54 : decode b_M_tick 54 = .ok (.iconst 1, 1) := by decide +kernel
theorem d_M_tick_55 : decode b_M_tick 55 = .ok (.iadd, 1) := by decide +kernel
theorem d_M_tick_56 : decode b_M_tick 56 = .ok (.goto 4, 3) := by decide +kernel
theorem d_M_tick_59 : decode b_M_tick 59 = .ok (.iload_n 2, 1) := by decide +kernel
theorem d_M_tick_60 : decode b_M_tick 60 = .ok (.istore_n 2, 1) := by decide +kernel
theorem d_M_tick_61 : decode b_M_tick 61 = .ok (.iinc 4 1, 3) := by decide +kernel
theorem d_M_tick_64 : decode b_M_tick 64 = .ok (.goto (-29), 3) := by decide +kernel
theorem d_M_tick_67 : decode b_M_tick 67 = .ok (.iinc 3 1, 3) := by decide +kernel
theorem d_M_tick_70 : decode b_M_tick 70 = .ok (.goto (-53), 3) := by decide +kernel
theorem d_M_tick_73 : decode b_M_tick 73 = .ok (.aload_n 0, 1) := by decide +kernel
theorem d_M_tick_74 : decode b_M_tick 74 = .ok (.aload_n 0, 1) := by decide +kernel
theorem d_M_tick_75 : decode b_M_tick 75 = .ok (.getfield 132, 3) := by decide +kernel
theorem d_M_tick_78 : decode b_M_tick 78 = .ok (.ifCond .eq 11, 3) := by decide +kernel
theorem d_M_tick_81 : decode b_M_tick 81 = .ok (.iload_n 1, 1) := by decide +kernel
theorem d_M_tick_82 : decode b_M_tick 82 = .ok (.ifCond .ne 7, 3) := by decide +kernel
theorem d_M_tick_85 : decode b_M_tick 85 = .ok (.iconst 1, 1) := by decide +kernel
theorem d_M_tick_86 : decode b_M_tick 86 = .ok (.goto 4, 3) := by decide +kernel
theorem d_M_tick_89 : decode b_M_tick 89 = .ok (.iconst 0, 1) := by decide +kernel
theorem d_M_tick_90 : decode b_M_tick 90 = .ok (.putfield 132, 3) := by decide +kernel
theorem d_M_tick_93 : decode b_M_tick 93 = .ok (.aload_n 0, 1) := by decide +kernel
theorem d_M_tick_94 : decode b_M_tick 94 = .ok (.aload_n 0, 1) := by decide +kernel
theorem d_M_tick_95 : decode b_M_tick 95 = .ok (.getfield 135, 3) := by decide +kernel
theorem d_M_tick_98 : decode b_M_tick 98 = .ok (.ifCond .eq 11, 3) := by decide +kernel
theorem d_M_tick_101 : decode b_M_tick 101 = .ok (.iload_n 1, 1) := by decide +kernel
theorem d_M_tick_102 : decode b_M_tick 102 = .ok (.ifCond .ne 7, 3) := by decide +kernel
theorem d_M_tick_105 : decode b_M_tick 105 = .ok (.iconst 1, 1) := by decide +kernel
theorem d_M_tick_106 : decode b_M_tick 106 = .ok (.goto 4, 3) := by decide +kernel
theorem d_M_tick_109 : decode b_M_tick 109 = .ok (.iconst 0, 1) := by decide +kernel
theorem d_M_tick_110 : decode b_M_tick 110 = .ok (.putfield 135, 3) := by decide +kernel
theorem d_M_tick_113 : decode b_M_tick 113 = .ok (.iload_n 2, 1) := by decide +kernel
theorem d_M_tick_114 : decode b_M_tick 114 = .ok (.ireturn, 1) := by decide +kernel
theorem d_M_down_0 : decode b_M_down 0 = .ok (.iload_n 1, 1) := by decide +kernel
theorem d_M_down_1 : decode b_M_down 1 = .ok (.ifCond .lt 18, 3) := by decide +kernel
theorem d_M_down_4 : decode b_M_down 4 = .ok (.iload_n 1, 1) := by decide +kernel
theorem d_M_down_5 : decode b_M_down 5 = .ok (.iconst 3, 1) := by decide +kernel
theorem d_M_down_6 : decode b_M_down 6 = .ok (.if_icmp .gt 13, 3) := by decide +kernel
theorem d_M_down_9 : decode b_M_down 9 = .ok (.aload_n 0, 1) := by decide +kernel
theorem d_M_down_10 : decode b_M_down 10 = .ok (.getfield 50, 3) := by decide +kernel
theorem d_M_down_13 : decode b_M_down 13 = .ok (.iload_n 1, 1) := by decide +kernel
theorem d_M_down_14 : decode b_M_down 14 = .ok (.baload, 1) := by decide +kernel
theorem d_M_down_15 : decode b_M_down 15 = .ok (.iload_n 2, 1) := by decide +kernel
theorem d_M_down_16 : decode b_M_down 16 = .ok (.if_icmp .ne 5, 3) := by decide +kernel
theorem d_M_down_19 : decode b_M_down 19 = .ok (.iconst 0, 1) := by decide +kernel
theorem d_M_down_20 : decode b_M_down 20 = .ok (.ireturn, 1) := by decide +kernel
theorem d_M_down_21 : decode b_M_down 21 = .ok (.aload_n 0, 1) := by decide +kernel
theorem d_M_down_22 : decode b_M_down 22 = .ok (.getfield 50, 3) := by decide +kernel
theorem d_M_down_25 : decode b_M_down 25 = .ok (.iload_n 1, 1) := by decide +kernel
theorem d_M_down_26 : decode b_M_down 26 = .ok (.iload_n 2, 1) := by decide +kernel
theorem d_M_down_27 : decode b_M_down 27 = .ok (.bastore, 1) := by decide +kernel
theorem d_M_down_28 : decode b_M_down 28 = .ok (.aload_n 0, 1) := by decide +kernel
theorem d_M_down_29 : decode b_M_down 29 = .ok (.iconst 1, 1) := by decide +kernel
theorem d_M_down_30 : decode b_M_down 30 = .ok (.putfield 70, 3) := by decide +kernel
theorem d_M_down_33 : decode b_M_down 33 = .ok (.iconst 1, 1) := by decide +kernel
theorem d_M_down_34 : decode b_M_down 34 = .ok (.ireturn, 1) := by decide +kernel
theorem d_M_in_0 : decode b_M_in 0 = .ok (.iload_n 1, 1) := by decide +kernel
theorem d_M_in_1 : decode b_M_in 1 = .ok (.ifCond .lt 16, 3) := by decide +kernel
theorem d_M_in_4 : decode b_M_in 4 = .ok (.iload_n 1, 1) := by decide +kernel
theorem d_M_in_5 : decode b_M_in 5 = .ok (.iconst 5, 1) := by decide +kernel
theorem d_M_in_6 : decode b_M_in 6 = .ok (.if_icmp .ge 11, 3) := by decide +kernel
theorem d_M_in_9 : decode b_M_in 9 = .ok (.aload_n 0, 1) := by decide +kernel
theorem d_M_in_10 : decode b_M_in 10 = .ok (.iload_n 1, 1) := by decide +kernel
theorem d_M_in_11 : decode b_M_in 11 = .ok (.invokevirtual 126, 3) := by decide +kernel
theorem d_M_in_14 : decode b_M_in 14 = .ok (.goto 4, 3) := by decide +kernel
theorem d_M_in_17 : decode b_M_in 17 = .ok (.iconst (-1), 1) := by decide +kernel
theorem d_M_in_18 : decode b_M_in 18 = .ok (.ireturn, 1) := by decide +kernel
theorem d_M_place_0 : decode b_M_place 0 = .ok (.aload_n 0, 1) := by decide +kernel
theorem d_M_place_1 : decode b_M_place 1 = .ok (.iload_n 1, 1) := by decide +kernel
theorem d_M_place_2 : decode b_M_place 2 = .ok (.invokevirtual 120, 3) := by decide +kernel
theorem d_M_place_5 : decode b_M_place 5 = .ok (.ifCond .eq 12, 3) := by decide +kernel
theorem d_M_place_8 : decode b_M_place 8 = .ok (.aload_n 0, 1) := by decide +kernel
theorem d_M_place_9 : decode b_M_place 9 = .ok (.getfield 28, 3) := by decide +kernel
theorem d_M_place_12 : decode b_M_place 12 = .ok (.iload_n 1, 1) := by decide +kernel
theorem d_M_place_13 : decode b_M_place 13 = .ok (.iaload, 1) := by decide +kernel
theorem d_M_place_14 : decode b_M_place 14 = .ok (.goto 4, 3) := by decide +kernel
theorem d_M_place_17 : decode b_M_place 17 = .ok (.iconst (-1), 1) := by decide +kernel
theorem d_M_place_18 : decode b_M_place 18 = .ok (.ireturn, 1) := by decide +kernel
theorem d_M_stage_0 : decode b_M_stage 0 = .ok (.aload_n 0, 1) := by decide +kernel
theorem d_M_stage_1 : decode b_M_stage 1 = .ok (.iload_n 1, 1) := by decide +kernel
theorem d_M_stage_2 : decode b_M_stage 2 = .ok (.invokevirtual 120, 3) := by decide +kernel
theorem d_M_stage_5 : decode b_M_stage 5 = .ok (.ifCond .eq 12, 3) := by decide +kernel
theorem d_M_stage_8 : decode b_M_stage 8 = .ok (.aload_n 0, 1) := by decide +kernel
theorem d_M_stage_9 : decode b_M_stage 9 = .ok (.getfield 25, 3) := by decide +kernel
theorem d_M_stage_12 : decode b_M_stage 12 = .ok (.iload_n 1, 1) := by decide +kernel
theorem d_M_stage_13 : decode b_M_stage 13 = .ok (.iaload, 1) := by decide +kernel
theorem d_M_stage_14 : decode b_M_stage 14 = .ok (.goto 4, 3) := by decide +kernel
theorem d_M_stage_17 : decode b_M_stage 17 = .ok (.iconst (-1), 1) := by decide +kernel
theorem d_M_stage_18 : decode b_M_stage 18 = .ok (.ireturn, 1) := by decide +kernel
theorem d_M_isVisit_0 : decode b_M_isVisit 0 = .ok (.aload_n 0, 1) := by decide +kernel
theorem d_M_isVisit_1 : decode b_M_isVisit 1 = .ok (.iload_n 1, 1) := by decide +kernel
theorem d_M_isVisit_2 : decode b_M_isVisit 2 = .ok (.invokevirtual 120, 3) := by decide +kernel
theorem d_M_isVisit_5 : decode b_M_isVisit 5 = .ok (.ifCond .eq 21, 3) := by decide +kernel
theorem d_M_isVisit_8 : decode b_M_isVisit 8 = .ok (.iload_n 2, 1) := by decide +kernel
theorem d_M_isVisit_9 : decode b_M_isVisit 9 = .ok (.ifCond .lt 17, 3) := by decide +kernel
theorem d_M_isVisit_12 : decode b_M_isVisit 12 = .ok (.iload_n 2, 1) := by decide +kernel
theorem d_M_isVisit_13 : decode b_M_isVisit 13 = .ok (.aload_n 0, 1) := by decide +kernel
theorem d_M_isVisit_14 : decode b_M_isVisit 14 = .ok (.getfield 25, 3) := by decide +kernel
theorem d_M_isVisit_17 : decode b_M_isVisit 17 = .ok (.iload_n 1, 1) := by decide +kernel
theorem d_M_isVisit_18 : decode b_M_isVisit 18 = .ok (.iaload, 1) := by decide +kernel
theorem d_M_isVisit_19 : decode b_M_isVisit 19 = .ok (.if_icmp .ge 7, 3) := by decide +kernel
theorem d_M_isVisit_22 : decode b_M_isVisit 22 = .ok (.iconst 1, 1) := by decide +kernel
theorem d_M_isVisit_23 : decode b_M_isVisit 23 = .ok (.goto 4, 3) := by decide +kernel
theorem d_M_isVisit_26 : decode b_M_isVisit 26 = .ok (.iconst 0, 1) := by decide +kernel
theorem d_M_isVisit_27 : decode b_M_isVisit 27 = .ok (.ireturn, 1) := by decide +kernel
theorem d_M_visited_0 : decode b_M_visited 0 = .ok (.aload_n 0, 1) := by decide +kernel
theorem d_M_visited_1 : decode b_M_visited 1 = .ok (.iload_n 1, 1) := by decide +kernel
theorem d_M_visited_2 : decode b_M_visited 2 = .ok (.iload_n 2, 1) := by decide +kernel
theorem d_M_visited_3 : decode b_M_visited 3 = .ok (.invokevirtual 165, 3) := by decide +kernel
theorem d_M_visited_6 : decode b_M_visited 6 = .ok (.ifCond .eq 16, 3) := by decide +kernel
theorem d_M_visited_9 : decode b_M_visited 9 = .ok (.aload_n 0, 1) := by decide +kernel
theorem d_M_visited_10 : decode b_M_visited 10 = .ok (.getfield 41, 3) := by decide +kernel
theorem d_M_visited_13 : decode b_M_visited 13 = .ok (.iconst 3, 1) := by decide +kernel
theorem d_M_visited_14 : decode b_M_visited 14 = .ok (.iload_n 1, 1) := by decide +kernel
theorem d_M_visited_15 : decode b_M_visited 15 = .ok (.imul, 1) := by decide +kernel
theorem d_M_visited_16 : decode b_M_visited 16 = .ok (.iload_n 2, 1) := by decide +kernel
theorem d_M_visited_17 : decode b_M_visited 17 = .ok (.iadd, 1) := by decide +kernel
theorem d_M_visited_18 : decode b_M_visited 18 = .ok (.iaload, 1) := by decide +kernel
theorem d_M_visited_19 : decode b_M_visited 19 = .ok (.goto 4, 3) := by decide +kernel
theorem d_M_visited_22 : decode b_M_visited 22 = .ok (.iconst (-1), 1) := by decide +kernel
theorem d_M_visited_23 : decode b_M_visited 23 = .ok (.ireturn, 1) := by decide +kernel
theorem d_M_when_0 : decode b_M_when 0 = .ok (.aload_n 0, 1) := by decide +kernel
theorem d_M_when_1 : decode b_M_when 1 = .ok (.iload_n 1, 1) := by decide +kernel
theorem d_M_when_2 : decode b_M_when 2 = .ok (.iload_n 2, 1) := by decide +kernel
theorem d_M_when_3 : decode b_M_when 3 = .ok (.invokevirtual 165, 3) := by decide +kernel
theorem d_M_when_6 : decode b_M_when 6 = .ok (.ifCond .ne 7, 3) := by decide +kernel
theorem d_M_when_9 : decode b_M_when 9 = .ok (.iconst (-1), 1) := by decide +kernel
theorem d_M_when_10 : decode b_M_when 10 = .ok (.goto 30, 3) := by decide +kernel
theorem d_M_when_13 : decode b_M_when 13 = .ok (.iload_n 3, 1) := by decide +kernel
theorem d_M_when_14 : decode b_M_when 14 = .ok (.ifCond .eq 16, 3) := by decide +kernel
theorem d_M_when_17 : decode b_M_when 17 = .ok (.aload_n 0, 1) := by decide +kernel
theorem d_M_when_18 : decode b_M_when 18 = .ok (.getfield 47, 3) := by decide +kernel
theorem d_M_when_21 : decode b_M_when 21 = .ok (.iconst 3, 1) := by decide +kernel
theorem d_M_when_22 : decode b_M_when 22 = .ok (.iload_n 1, 1) := by decide +kernel
theorem d_M_when_23 : decode b_M_when 23 = .ok (.imul, 1) := by decide +kernel
theorem d_M_when_24 : decode b_M_when 24 = .ok (.iload_n 2, 1) := by decide +kernel
theorem d_M_when_25 : decode b_M_when 25 = .ok (.iadd, 1) := by decide +kernel
theorem d_M_when_26 : decode b_M_when 26 = .ok (.iaload, 1) := by decide +kernel
theorem d_M_when_27 : decode b_M_when 27 = .ok (.goto 13, 3) := by decide +kernel
theorem d_M_when_30 : decode b_M_when 30 = .ok (.aload_n 0, 1) := by decide +kernel
theorem d_M_when_31 : decode b_M_when 31 = .ok (.getfield 44, 3) := by decide +kernel
theorem d_M_when_34 : decode b_M_when 34 = .ok (.iconst 3, 1) := by decide +kernel
theorem d_M_when_35 : decode b_M_when 35 = .ok (.iload_n 1, 1) := by decide +kernel
theorem d_M_when_36 : decode b_M_when 36 = .ok (.imul, 1) := by decide +kernel
theorem d_M_when_37 : decode b_M_when 37 = .ok (.iload_n 2, 1) := by decide +kernel
theorem d_M_when_38 : decode b_M_when 38 = .ok (.iadd, 1) := by decide +kernel
theorem d_M_when_39 : decode b_M_when 39 = .ok (.iaload, 1) := by decide +kernel
theorem d_M_when_40 : decode b_M_when 40 = .ok (.ireturn, 1) := by decide +kernel
theorem d_M_left_0 : decode b_M_left 0 = .ok (.aload_n 0, 1) := by decide +kernel
theorem d_M_left_1 : decode b_M_left 1 = .ok (.iload_n 1, 1) := by decide +kernel
theorem d_M_left_2 : decode b_M_left 2 = .ok (.invokevirtual 120, 3) := by decide +kernel
theorem d_M_left_5 : decode b_M_left 5 = .ok (.ifCond .eq 12, 3) := by decide +kernel
theorem d_M_left_8 : decode b_M_left 8 = .ok (.aload_n 0, 1) := by decide +kernel
theorem d_M_left_9 : decode b_M_left 9 = .ok (.getfield 31, 3) := by decide +kernel
theorem d_M_left_12 : decode b_M_left 12 = .ok (.iload_n 1, 1) := by decide +kernel
theorem d_M_left_13 : decode b_M_left 13 = .ok (.iaload, 1) := by decide +kernel
theorem d_M_left_14 : decode b_M_left 14 = .ok (.goto 4, 3) := by decide +kernel
theorem d_M_left_17 : decode b_M_left 17 = .ok (.iconst (-1), 1) := by decide +kernel
theorem d_M_left_18 : decode b_M_left 18 = .ok (.ireturn, 1) := by decide +kernel
theorem d_M_count_0 : decode b_M_count 0 = .ok (.iconst 0, 1) := by decide +kernel
theorem d_M_count_1 : decode b_M_count 1 = .ok (.istore_n 2, 1) := by decide +kernel
theorem d_M_count_2 : decode b_M_count 2 = .ok (.iconst 0, 1) := by decide +kernel
theorem d_M_count_3 : decode b_M_count 3 = .ok (.istore_n 3, 1) := by decide +kernel
theorem d_M_count_4 : decode b_M_count 4 = .ok (.iload_n 3, 1) := by decide +kernel
theorem d_M_count_5 : decode b_M_count 5 = .ok (.aload_n 0, 1) := by decide +kernel
theorem d_M_count_6 : decode b_M_count 6 = .ok (.getfield 66, 3) := by decide +kernel
theorem d_M_count_9 : decode b_M_count 9 = .ok (.if_icmp .ge 44, 3) := by decide +kernel
theorem d_M_count_12 : decode b_M_count 12 = .ok (.iload_n 2, 1) := by decide +kernel
theorem d_M_count_13 : decode b_M_count 13 = .ok (.iload_n 1, 1) := by decide +kernel
theorem d_M_count_14 : decode b_M_count 14 = .ok (.iconst 1, 1) := by decide +kernel
theorem d_M_count_15 : decode b_M_count 15 = .ok (.if_icmp .ne 11, 3) := by decide +kernel
theorem d_M_count_18 : decode b_M_count 18 = .ok (.aload_n 0, 1) := by decide +kernel
theorem d_M_count_19 : decode b_M_count 19 = .ok (.iload_n 3, 1) := by decide +kernel
theorem d_M_count_20 : decode b_M_count 20 = .ok (.invokevirtual 123, 3) := by decide +kernel
theorem d_M_count_23 : decode b_M_count 23 = .ok (.ifCond .ne 17, 3) := by decide +kernel
theorem d_M_count_26 : decode b_M_count 26 = .ok (.iload_n 1, 1) := by decide +kernel
theorem d_M_count_27 : decode b_M_count 27 = .ok (.iconst 2, 1) := by decide +kernel
theorem d_M_count_28 : decode b_M_count 28 = .ok (.if_icmp .ne 16, 3) := by decide +kernel
theorem d_M_count_31 : decode b_M_count 31 = .ok (.aload_n 0, 1) := by decide +kernel
theorem d_M_count_32 : decode b_M_count 32 = .ok (.getfield 37, 3) := by decide +kernel
theorem d_M_count_35 : decode b_M_count 35 = .ok (.iload_n 3, 1) := by decide +kernel
theorem d_M_count_36 : decode b_M_count 36 = .ok (.baload, 1) := by decide +kernel
theorem d_M_count_37 : decode b_M_count 37 = .ok (.ifCond .eq 7, 3) := by decide +kernel
theorem d_M_count_40 : decode b_M_count 40 = .ok (.iconst 1, 1) := by decide +kernel
theorem d_M_count_41 : decode b_M_count 41 = .ok (.goto 4, 3) := by decide +kernel
theorem d_M_count_44 : decode b_M_count 44 = .ok (.iconst 0, 1) := by decide +kernel
theorem d_M_count_45 : decode b_M_count 45 = .ok (.iadd, 1) := by decide +kernel
theorem d_M_count_46 : decode b_M_count 46 = .ok (.istore_n 2, 1) := by decide +kernel
theorem d_M_count_47 : decode b_M_count 47 = .ok (.iinc 3 1, 3) := by decide +kernel
theorem d_M_count_50 : decode b_M_count 50 = .ok (.goto (-46), 3) := by decide +kernel
theorem d_M_count_53 : decode b_M_count 53 = .ok (.iload_n 1, 1) := by decide +kernel
theorem d_M_count_54 : decode b_M_count 54 = .ok (.ifCond .ne 10, 3) := by decide +kernel
theorem d_M_count_57 : decode b_M_count 57 = .ok (.aload_n 0, 1) := by decide +kernel
theorem d_M_count_58 : decode b_M_count 58 = .ok (.getfield 66, 3) := by decide +kernel
theorem d_M_count_61 : decode b_M_count 61 = .ok (.goto 54, 3) := by decide +kernel
theorem d_M_count_64 : decode b_M_count 64 = .ok (.iload_n 1, 1) := by decide +kernel
theorem d_M_count_65 : decode b_M_count 65 = .ok (.iconst 1, 1) := by decide +kernel
theorem d_M_count_66 : decode b_M_count 66 = .ok (.if_icmp .eq 8, 3) := by decide +kernel
theorem d_M_count_69 : decode b_M_count 69 = .ok (.iload_n 1, 1) := by decide +kernel
theorem d_M_count_70 : decode b_M_count 70 = .ok (.iconst 2, 1) := by decide +kernel
theorem d_M_count_71 : decode b_M_count 71 = .ok (.if_icmp .ne 7, 3) := by decide +kernel
theorem d_M_count_74 : decode b_M_count 74 = .ok (.iload_n 2, 1) := by decide +kernel
theorem d_M_count_75 : decode b_M_count 75 = .ok (.goto 40, 3) := by decide +kernel
theorem d_M_count_78 : decode b_M_count 78 = .ok (.iload_n 1, 1) := by decide +kernel
theorem d_M_count_79 : decode b_M_count 79 = .ok (.iconst 3, 1) := by decide +kernel
theorem d_M_count_80 : decode b_M_count 80 = .ok (.if_icmp .ne 10, 3) := by decide +kernel
theorem d_M_count_83 : decode b_M_count 83 = .ok (.aload_n 0, 1) := by decide +kernel
theorem d_M_count_84 : decode b_M_count 84 = .ok (.getfield 141, 3) := by decide +kernel
theorem d_M_count_87 : decode b_M_count 87 = .ok (.goto 28, 3) := by decide +kernel
theorem d_M_count_90 : decode b_M_count 90 = .ok (.iload_n 1, 1) := by decide +kernel
theorem d_M_count_91 : decode b_M_count 91 = .ok (.iconst 4, 1) := by decide +kernel
theorem d_M_count_92 : decode b_M_count 92 = .ok (.if_icmp .ne 10, 3) := by decide +kernel
theorem d_M_count_95 : decode b_M_count 95 = .ok (.aload_n 0, 1) := by decide +kernel
theorem d_M_count_96 : decode b_M_count 96 = .ok (.getfield 144, 3) := by decide +kernel
theorem d_M_count_99 : decode b_M_count 99 = .ok (.goto 16, 3) := by decide +kernel
theorem d_M_count_102 : decode b_M_count 102 = .ok (.iload_n 1, 1) := by decide +kernel
theorem d_M_count_103 : decode b_M_count 103 = .ok (.iconst 5, 1) := by decide +kernel
theorem d_M_count_104 : decode b_M_count 104 = .ok (.if_icmp .ne 10, 3) := by decide +kernel
theorem d_M_count_107 : decode b_M_count 107 = .ok (.aload_n 0, 1) := by decide +kernel
theorem d_M_count_108 : decode b_M_count 108 = .ok (.getfield 147, 3) := by decide +kernel
theorem d_M_count_111 : decode b_M_count 111 = .ok (.goto 4, 3) := by decide +kernel
theorem d_M_count_114 : decode b_M_count 114 = .ok (.iconst (-1), 1) := by decide +kernel
theorem d_M_count_115 : decode b_M_count 115 = .ok (.ireturn, 1) := by decide +kernel
