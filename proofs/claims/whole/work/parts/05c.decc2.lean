theorem dX5_mends_160 : decode cX5_mends 160 = .ok (.iload_n 2, 1) := by decide +kernel
theorem dX5_mends_161 : decode cX5_mends 161 = .ok (.iload_n 3, 1) := by decide +kernel
theorem dX5_mends_162 : decode cX5_mends 162 = .ok (.invokevirtual 170, 3) := by decide +kernel
theorem dX5_mends_165 : decode cX5_mends 165 = .ok (.aload_n 0, 1) := by decide +kernel
theorem dX5_mends_166 : decode cX5_mends 166 = .ok (.getfield 42, 3) := by decide +kernel
theorem dX5_mends_169 : decode cX5_mends 169 = .ok (.iload_n 2, 1) := by decide +kernel
theorem dX5_mends_170 : decode cX5_mends 170 = .ok (.iconst 1, 1) := by decide +kernel
theorem dX5_mends_171 : decode cX5_mends 171 = .ok (.bastore, 1) := by decide +kernel
theorem dX5_mends_172 : decode cX5_mends 172 = .ok (.iinc 1 1, 3) := by decide +kernel
theorem dX5_mends_175 : decode cX5_mends 175 = .ok (.goto (-150), 3) := by decide +kernel
theorem dX5_mends_178 : decode cX5_mends 178 = .ok (.return_, 1) := by decide +kernel
theorem dX5_trims_0 : decode cX5_trims 0 = .ok (.iconst (-1), 1) := by decide +kernel
theorem dX5_trims_1 : decode cX5_trims 1 = .ok (.istore_n 2, 1) := by decide +kernel
theorem dX5_trims_2 : decode cX5_trims 2 = .ok (.iconst 0, 1) := by decide +kernel
theorem dX5_trims_3 : decode cX5_trims 3 = .ok (.istore_n 3, 1) := by decide +kernel
theorem dX5_trims_4 : decode cX5_trims 4 = .ok (.iload_n 3, 1) := by decide +kernel
theorem dX5_trims_5 : decode cX5_trims 5 = .ok (.aload_n 0, 1) := by decide +kernel
theorem dX5_trims_6 : decode cX5_trims 6 = .ok (.getfield 45, 3) := by decide +kernel
theorem dX5_trims_9 : decode cX5_trims 9 = .ok (.iload_n 1, 1) := by decide +kernel
theorem dX5_trims_10 : decode cX5_trims 10 = .ok (.iaload, 1) := by decide +kernel
theorem dX5_trims_11 : decode cX5_trims 11 = .ok (.if_icmp .ge 114, 3) := by decide +kernel
theorem dX5_trims_14 : decode cX5_trims 14 = .ok (.aload_n 0, 1) := by decide +kernel
theorem dX5_trims_15 : decode cX5_trims 15 = .ok (.getfield 48, 3) := by decide +kernel
theorem dX5_trims_18 : decode cX5_trims 18 = .ok (.bipush 8, 2) := by decide +kernel
theorem dX5_trims_20 : decode cX5_trims 20 = .ok (.iload_n 1, 1) := by decide +kernel
theorem dX5_trims_21 : decode cX5_trims 21 = .ok (.imul, 1) := by decide +kernel
theorem dX5_trims_22 : decode cX5_trims 22 = .ok (.iload_n 3, 1) := by decide +kernel
theorem dX5_trims_23 : decode cX5_trims 23 = .ok (.iadd, 1) := by decide +kernel
theorem dX5_trims_24 : decode cX5_trims 24 = .ok (.iaload, 1) := by decide +kernel
theorem dX5_trims_25 : decode cX5_trims 25 = .ok (.istore 4, 2) := by decide +kernel
theorem dX5_trims_27 : decode cX5_trims 27 = .ok (.aload_n 0, 1) := by decide +kernel
theorem dX5_trims_28 : decode cX5_trims 28 = .ok (.getfield 20, 3) := by decide +kernel
theorem dX5_trims_31 : decode cX5_trims 31 = .ok (.iload 4, 2) := by decide +kernel
theorem dX5_trims_33 : decode cX5_trims 33 = .ok (.baload, 1) := by decide +kernel
theorem dX5_trims_34 : decode cX5_trims 34 = .ok (.ifCond .eq 85, 3) := by decide +kernel
theorem dX5_trims_37 : decode cX5_trims 37 = .ok (.iload_n 2, 1) := by decide +kernel
theorem dX5_trims_38 : decode cX5_trims 38 = .ok (.iconst (-1), 1) := by decide +kernel
theorem dX5_trims_39 : decode cX5_trims 39 = .ok (.if_icmp .ne 7, 3) := by decide +kernel
theorem dX5_trims_42 : decode cX5_trims 42 = .ok (.iconst 1, 1) := by decide +kernel
theorem dX5_trims_43 : decode cX5_trims 43 = .ok (.goto 27, 3) := by decide +kernel
theorem dX5_trims_46 : decode cX5_trims 46 = .ok (.aload_n 0, 1) := by decide +kernel
theorem dX5_trims_47 : decode cX5_trims 47 = .ok (.iload_n 1, 1) := by decide +kernel
theorem dX5_trims_48 : decode cX5_trims 48 = .ok (.aload_n 0, 1) := by decide +kernel
theorem dX5_trims_49 : decode cX5_trims 49 = .ok (.getfield 13, 3) := by decide +kernel
theorem dX5_trims_52 : decode cX5_trims 52 = .ok (.iload 4, 2) := by decide +kernel
theorem dX5_trims_54 : decode cX5_trims 54 = .ok (.iaload, 1) := by decide +kernel
theorem dX5_trims_55 : decode cX5_trims 55 = .ok (.invokevirtual 134, 3) := by decide +kernel
theorem dX5_trims_58 : decode cX5_trims 58 = .ok (.aload_n 0, 1) := by decide +kernel
theorem dX5_trims_59 : decode cX5_trims 59 = .ok (.iload_n 1, 1) := by decide +kernel
theorem dX5_trims_60 : decode cX5_trims 60 = .ok (.aload_n 0, 1) := by decide +kernel
theorem dX5_trims_61 : decode cX5_trims 61 = .ok (.getfield 13, 3) := by decide +kernel
theorem dX5_trims_64 : decode cX5_trims 64 = .ok (.iload_n 2, 1) := by decide +kernel
theorem dX5_trims_65 : decode cX5_trims 65 = .ok (.iaload, 1) := by decide +kernel
theorem dX5_trims_66 : decode cX5_trims 66 = .ok (.invokevirtual 134, 3) := by decide +kernel
theorem dX5_trims_69 : decode cX5_trims 69 = .ok (.isub, 1) := by decide +kernel
theorem dX5_trims_70 : decode cX5_trims 70 = .ok (.istore 5, 2) := by decide +kernel
theorem dX5_trims_72 : decode cX5_trims 72 = .ok (.iload 5, 2) := by decide +kernel
theorem dX5_trims_74 : decode cX5_trims 74 = .ok (.ifCond .ne 18, 3) := by decide +kernel
theorem dX5_trims_77 : decode cX5_trims 77 = .ok (.aload_n 0, 1) := by decide +kernel
theorem dX5_trims_78 : decode cX5_trims 78 = .ok (.iload 4, 2) := by decide +kernel
theorem dX5_trims_80 : decode cX5_trims 80 = .ok (.invokevirtual 127, 3) := by decide +kernel
theorem dX5_trims_83 : decode cX5_trims 83 = .ok (.aload_n 0, 1) := by decide +kernel
theorem dX5_trims_84 : decode cX5_trims 84 = .ok (.iload_n 2, 1) := by decide +kernel
theorem dX5_trims_85 : decode cX5_trims 85 = .ok (.invokevirtual 127, 3) := by decide +kernel
theorem dX5_trims_88 : decode cX5_trims 88 = .ok (.isub, 1) := by decide +kernel
theorem dX5_trims_89 : decode cX5_trims 89 = .ok (.goto 5, 3) := by decide +kernel
theorem dX5_trims_92 : decode cX5_trims 92 = .ok (.iload 5, 2) := by decide +kernel
theorem dX5_trims_94 : decode cX5_trims 94 = .ok (.istore 5, 2) := by decide +kernel
theorem dX5_trims_96 : decode cX5_trims 96 = .ok (.iload 5, 2) := by decide +kernel
theorem dX5_trims_98 : decode cX5_trims 98 = .ok (.ifCond .gt 14, 3) := by decide +kernel
theorem dX5_trims_101 : decode cX5_trims 101 = .ok (.iload 5, 2) := by decide +kernel
theorem dX5_trims_103 : decode cX5_trims 103 = .ok (.ifCond .ne 14, 3) := by decide +kernel
theorem dX5_trims_106 : decode cX5_trims 106 = .ok (.iload 4, 2) := by decide +kernel
theorem dX5_trims_108 : decode cX5_trims 108 = .ok (.iload_n 2, 1) := by decide +kernel
theorem dX5_trims_109 : decode cX5_trims 109 = .ok (.if_icmp .le 8, 3) := by decide +kernel
theorem dX5_trims_112 : decode cX5_trims 112 = .ok (.iload 4, 2) := by decide +kernel
theorem dX5_trims_114 : decode cX5_trims 114 = .ok (.goto 4, 3) := by decide +kernel
theorem dX5_trims_117 : decode cX5_trims 117 = .ok (.iload_n 2, 1) := by decide +kernel
theorem dX5_trims_118 : decode cX5_trims 118 = .ok (.istore_n 2, 1) := by decide +kernel
theorem dX5_trims_119 : decode cX5_trims 119 = .ok (.iinc 3 1, 3) := by decide +kernel
theorem dX5_trims_122 : decode cX5_trims 122 = .ok (.goto (-118), 3) := by decide +kernel
theorem dX5_trims_125 : decode cX5_trims 125 = .ok (.iload_n 2, 1) := by decide +kernel
theorem dX5_trims_126 : decode cX5_trims 126 = .ok (.iconst (-1), 1) := by decide +kernel
theorem dX5_trims_127 : decode cX5_trims 127 = .ok (.if_icmp .eq 9, 3) := by decide +kernel
theorem dX5_trims_130 : decode cX5_trims 130 = .ok (.aload_n 0, 1) := by decide +kernel
theorem dX5_trims_131 : decode cX5_trims 131 = .ok (.iload_n 2, 1) := by decide +kernel
theorem dX5_trims_132 : decode cX5_trims 132 = .ok (.iload_n 1, 1) := by decide +kernel
theorem dX5_trims_133 : decode cX5_trims 133 = .ok (.invokevirtual 213, 3) := by decide +kernel
theorem dX5_trims_136 : decode cX5_trims 136 = .ok (.return_, 1) := by decide +kernel
theorem dX5_balances_0 : decode cX5_balances 0 = .ok (.iconst (-1), 1) := by decide +kernel
theorem dX5_balances_1 : decode cX5_balances 1 = .ok (.istore_n 1, 1) := by decide +kernel
theorem dX5_balances_2 : decode cX5_balances 2 = .ok (.iconst (-1), 1) := by decide +kernel
theorem dX5_balances_3 : decode cX5_balances 3 = .ok (.istore_n 2, 1) := by decide +kernel
theorem dX5_balances_4 : decode cX5_balances 4 = .ok (.iconst 0, 1) := by decide +kernel
theorem dX5_balances_5 : decode cX5_balances 5 = .ok (.istore_n 3, 1) := by decide +kernel
theorem dX5_balances_6 : decode cX5_balances 6 = .ok (.iload_n 3, 1) := by decide +kernel
theorem dX5_balances_7 : decode cX5_balances 7 = .ok (.aload_n 0, 1) := by decide +kernel
theorem dX5_balances_8 : decode cX5_balances 8 = .ok (.getfield 78, 3) := by decide +kernel
theorem dX5_balances_11 : decode cX5_balances 11 = .ok (.if_icmp .ge 75, 3) := by decide +kernel
theorem dX5_balances_14 : decode cX5_balances 14 = .ok (.aload_n 0, 1) := by decide +kernel
theorem dX5_balances_15 : decode cX5_balances 15 = .ok (.getfield 27, 3) := by decide +kernel
theorem dX5_balances_18 : decode cX5_balances 18 = .ok (.iload_n 3, 1) := by decide +kernel
theorem dX5_balances_19 : decode cX5_balances 19 = .ok (.baload, 1) := by decide +kernel
theorem dX5_balances_20 : decode cX5_balances 20 = .ok (.ifCond .eq 60, 3) := by decide +kernel
theorem dX5_balances_23 : decode cX5_balances 23 = .ok (.aload_n 0, 1) := by decide +kernel
theorem dX5_balances_24 : decode cX5_balances 24 = .ok (.getfield 20, 3) := by decide +kernel
theorem dX5_balances_27 : decode cX5_balances 27 = .ok (.iload_n 3, 1) := by decide +kernel
theorem dX5_balances_28 : decode cX5_balances 28 = .ok (.baload, 1) := by decide +kernel
theorem dX5_balances_29 : decode cX5_balances 29 = .ok (.ifCond .eq 51, 3) := by decide +kernel
theorem dX5_balances_32 : decode cX5_balances 32 = .ok (.iload_n 1, 1) := by decide +kernel
theorem dX5_balances_33 : decode cX5_balances 33 = .ok (.iconst (-1), 1) := by decide +kernel
theorem dX5_balances_34 : decode cX5_balances 34 = .ok (.if_icmp .eq 16, 3) := by decide +kernel
theorem dX5_balances_37 : decode cX5_balances 37 = .ok (.aload_n 0, 1) := by decide +kernel
theorem dX5_balances_38 : decode cX5_balances 38 = .ok (.iload_n 3, 1) := by decide +kernel
theorem dX5_balances_39 : decode cX5_balances 39 = .ok (.invokevirtual 127, 3) := by decide +kernel
theorem dX5_balances_42 : decode cX5_balances 42 = .ok (.aload_n 0, 1) := by decide +kernel
theorem dX5_balances_43 : decode cX5_balances 43 = .ok (.iload_n 1, 1) := by decide +kernel
theorem dX5_balances_44 : decode cX5_balances 44 = .ok (.invokevirtual 127, 3) := by decide +kernel
theorem dX5_balances_47 : decode cX5_balances 47 = .ok (.if_icmp .le 7, 3) := by decide +kernel
theorem dX5_balances_50 : decode cX5_balances 50 = .ok (.iload_n 3, 1) := by decide +kernel
theorem dX5_balances_51 : decode cX5_balances 51 = .ok (.goto 4, 3) := by decide +kernel
theorem dX5_balances_54 : decode cX5_balances 54 = .ok (.iload_n 1, 1) := by decide +kernel
theorem dX5_balances_55 : decode cX5_balances 55 = .ok (.istore_n 1, 1) := by decide +kernel
theorem dX5_balances_56 : decode cX5_balances 56 = .ok (.iload_n 2, 1) := by decide +kernel
theorem dX5_balances_57 : decode cX5_balances 57 = .ok (.iconst (-1), 1) := by decide +kernel
theorem dX5_balances_58 : decode cX5_balances 58 = .ok (.if_icmp .eq 16, 3) := by decide +kernel
theorem dX5_balances_61 : decode cX5_balances 61 = .ok (.aload_n 0, 1) := by decide +kernel
theorem dX5_balances_62 : decode cX5_balances 62 = .ok (.iload_n 3, 1) := by decide +kernel
theorem dX5_balances_63 : decode cX5_balances 63 = .ok (.invokevirtual 127, 3) := by decide +kernel
theorem dX5_balances_66 : decode cX5_balances 66 = .ok (.aload_n 0, 1) := by decide +kernel
theorem dX5_balances_67 : decode cX5_balances 67 = .ok (.iload_n 2, 1) := by decide +kernel
theorem dX5_balances_68 : decode cX5_balances 68 = .ok (.invokevirtual 127, 3) := by decide +kernel
theorem dX5_balances_71 : decode cX5_balances 71 = .ok (.if_icmp .ge 7, 3) := by decide +kernel
theorem dX5_balances_74 : decode cX5_balances 74 = .ok (.iload_n 3, 1) := by decide +kernel
theorem dX5_balances_75 : decode cX5_balances 75 = .ok (.goto 4, 3) := by decide +kernel
theorem dX5_balances_78 : decode cX5_balances 78 = .ok (.iload_n 2, 1) := by decide +kernel
theorem dX5_balances_79 : decode cX5_balances 79 = .ok (.istore_n 2, 1) := by decide +kernel
theorem dX5_balances_80 : decode cX5_balances 80 = .ok (.iinc 3 1, 3) := by decide +kernel
theorem dX5_balances_83 : decode cX5_balances 83 = .ok (.goto (-77), 3) := by decide +kernel
theorem dX5_balances_86 : decode cX5_balances 86 = .ok (.iload_n 1, 1) := by decide +kernel
theorem dX5_balances_87 : decode cX5_balances 87 = .ok (.iconst (-1), 1) := by decide +kernel
theorem dX5_balances_88 : decode cX5_balances 88 = .ok (.if_icmp .eq 32, 3) := by decide +kernel
theorem dX5_balances_91 : decode cX5_balances 91 = .ok (.aload_n 0, 1) := by decide +kernel
theorem dX5_balances_92 : decode cX5_balances 92 = .ok (.iload_n 1, 1) := by decide +kernel
theorem dX5_balances_93 : decode cX5_balances 93 = .ok (.invokevirtual 127, 3) := by decide +kernel
theorem dX5_balances_96 : decode cX5_balances 96 = .ok (.aload_n 0, 1) := by decide +kernel
theorem dX5_balances_97 : decode cX5_balances 97 = .ok (.iload_n 2, 1) := by decide +kernel
theorem dX5_balances_98 : decode cX5_balances 98 = .ok (.invokevirtual 127, 3) := by decide +kernel
theorem dX5_balances_101 : decode cX5_balances 101 = .ok (.iconst 2, 1) := by decide +kernel
theorem dX5_balances_102 : decode cX5_balances 102 = .ok (.iadd, 1) := by decide +kernel
theorem dX5_balances_103 : decode cX5_balances 103 = .ok (.if_icmp .lt 17, 3) := by decide +kernel
theorem dX5_balances_106 : decode cX5_balances 106 = .ok (.aload_n 0, 1) := by decide +kernel
theorem dX5_balances_107 : decode cX5_balances 107 = .ok (.iload_n 2, 1) := by decide +kernel
theorem dX5_balances_108 : decode cX5_balances 108 = .ok (.invokevirtual 127, 3) := by decide +kernel
theorem dX5_balances_111 : decode cX5_balances 111 = .ok (.aload_n 0, 1) := by decide +kernel
theorem dX5_balances_112 : decode cX5_balances 112 = .ok (.getfield 17, 3) := by decide +kernel
theorem dX5_balances_115 : decode cX5_balances 115 = .ok (.iload_n 2, 1) := by decide +kernel
theorem dX5_balances_116 : decode cX5_balances 116 = .ok (.iaload, 1) := by decide +kernel
theorem dX5_balances_117 : decode cX5_balances 117 = .ok (.if_icmp .lt 4, 3) := by decide +kernel
theorem dX5_balances_120 : decode cX5_balances 120 = .ok (.return_, 1) := by decide +kernel
theorem dX5_balances_121 : decode cX5_balances 121 = .ok (.iconst 0, 1) := by decide +kernel
theorem dX5_balances_122 : decode cX5_balances 122 = .ok (.istore_n 3, 1) := by decide +kernel
theorem dX5_balances_123 : decode cX5_balances 123 = .ok (.iload_n 3, 1) := by decide +kernel
theorem dX5_balances_124 : decode cX5_balances 124 = .ok (.aload_n 0, 1) := by decide +kernel
theorem dX5_balances_125 : decode cX5_balances 125 = .ok (.getfield 85, 3) := by decide +kernel
theorem dX5_balances_128 : decode cX5_balances 128 = .ok (.if_icmp .ge 125, 3) := by decide +kernel
theorem dX5_balances_131 : decode cX5_balances 131 = .ok (.aload_n 0, 1) := by decide +kernel
theorem dX5_balances_132 : decode cX5_balances 132 = .ok (.iload_n 3, 1) := by decide +kernel
theorem dX5_balances_133 : decode cX5_balances 133 = .ok (.iload_n 1, 1) := by decide +kernel
theorem dX5_balances_134 : decode cX5_balances 134 = .ok (.invokevirtual 112, 3) := by decide +kernel
theorem dX5_balances_137 : decode cX5_balances 137 = .ok (.istore 4, 2) := by decide +kernel
theorem dX5_balances_139 : decode cX5_balances 139 = .ok (.iload 4, 2) := by decide +kernel
theorem dX5_balances_141 : decode cX5_balances 141 = .ok (.iconst (-1), 1) := by decide +kernel
theorem dX5_balances_142 : decode cX5_balances 142 = .ok (.if_icmp .eq 105, 3) := by decide +kernel
theorem dX5_balances_145 : decode cX5_balances 145 = .ok (.aload_n 0, 1) := by decide +kernel
theorem dX5_balances_146 : decode cX5_balances 146 = .ok (.iload_n 3, 1) := by decide +kernel
theorem dX5_balances_147 : decode cX5_balances 147 = .ok (.invokevirtual 228, 3) := by decide +kernel
theorem dX5_balances_150 : decode cX5_balances 150 = .ok (.ifCond .ne 97, 3) := by decide +kernel
theorem dX5_balances_153 : decode cX5_balances 153 = .ok (.aload_n 0, 1) := by decide +kernel
theorem dX5_balances_154 : decode cX5_balances 154 = .ok (.iload_n 3, 1) := by decide +kernel
theorem dX5_balances_155 : decode cX5_balances 155 = .ok (.iload_n 1, 1) := by decide +kernel
theorem dX5_balances_156 : decode cX5_balances 156 = .ok (.invokevirtual 123, 3) := by decide +kernel
theorem dX5_balances_159 : decode cX5_balances 159 = .ok (.ifCond .eq 88, 3) := by decide +kernel
theorem dX5_balances_162 : decode cX5_balances 162 = .ok (.aload_n 0, 1) := by decide +kernel
theorem dX5_balances_163 : decode cX5_balances 163 = .ok (.getfield 60, 3) := by decide +kernel
theorem dX5_balances_166 : decode cX5_balances 166 = .ok (.iload_n 1, 1) := by decide +kernel
theorem dX5_balances_167 : decode cX5_balances 167 = .ok (.iload_n 3, 1) := by decide +kernel
theorem dX5_balances_168 : decode cX5_balances 168 = .ok (.invokestatic 104, 3) := by decide +kernel
theorem dX5_balances_171 : decode cX5_balances 171 = .ok (.iaload, 1) := by decide +kernel
theorem dX5_balances_172 : decode cX5_balances 172 = .ok (.ifCond .ne 75, 3) := by decide +kernel
theorem dX5_balances_175 : decode cX5_balances 175 = .ok (.aload_n 0, 1) := by decide +kernel
theorem dX5_balances_176 : decode cX5_balances 176 = .ok (.getfield 51, 3) := by decide +kernel
theorem dX5_balances_179 : decode cX5_balances 179 = .ok (.iload_n 2, 1) := by decide +kernel
theorem dX5_balances_180 : decode cX5_balances 180 = .ok (.iload_n 3, 1) := by decide +kernel
theorem dX5_balances_181 : decode cX5_balances 181 = .ok (.invokestatic 104, 3) := by decide +kernel
theorem dX5_balances_184 : decode cX5_balances 184 = .ok (.iaload, 1) := by decide +kernel
theorem dX5_balances_185 : decode cX5_balances 185 = .ok (.ifCond .ne 62, 3) := by decide +kernel
theorem dX5_balances_188 : decode cX5_balances 188 = .ok (.aload_n 0, 1) := by decide +kernel
theorem dX5_balances_189 : decode cX5_balances 189 = .ok (.iload_n 2, 1) := by decide +kernel
theorem dX5_balances_190 : decode cX5_balances 190 = .ok (.iload_n 3, 1) := by decide +kernel
theorem dX5_balances_191 : decode cX5_balances 191 = .ok (.iload_n 1, 1) := by decide +kernel
theorem dX5_balances_192 : decode cX5_balances 192 = .ok (.iload_n 3, 1) := by decide +kernel
theorem dX5_balances_193 : decode cX5_balances 193 = .ok (.invokevirtual 166, 3) := by decide +kernel
theorem dX5_balances_196 : decode cX5_balances 196 = .ok (.aload_n 0, 1) := by decide +kernel
theorem dX5_balances_197 : decode cX5_balances 197 = .ok (.getfield 48, 3) := by decide +kernel
theorem dX5_balances_200 : decode cX5_balances 200 = .ok (.bipush 8, 2) := by decide +kernel
theorem dX5_balances_202 : decode cX5_balances 202 = .ok (.iload_n 3, 1) := by decide +kernel
theorem dX5_balances_203 : decode cX5_balances 203 = .ok (.imul, 1) := by decide +kernel
theorem dX5_balances_204 : decode cX5_balances 204 = .ok (.iload 4, 2) := by decide +kernel
theorem dX5_balances_206 : decode cX5_balances 206 = .ok (.iadd, 1) := by decide +kernel
theorem dX5_balances_207 : decode cX5_balances 207 = .ok (.iload_n 2, 1) := by decide +kernel
theorem dX5_balances_208 : decode cX5_balances 208 = .ok (.iastore, 1) := by decide +kernel
theorem dX5_balances_209 : decode cX5_balances 209 = .ok (.aload_n 0, 1) := by decide +kernel
theorem dX5_balances_210 : decode cX5_balances 210 = .ok (.getfield 51, 3) := by decide +kernel
theorem dX5_balances_213 : decode cX5_balances 213 = .ok (.iload_n 1, 1) := by decide +kernel
theorem dX5_balances_214 : decode cX5_balances 214 = .ok (.iload_n 3, 1) := by decide +kernel
theorem dX5_balances_215 : decode cX5_balances 215 = .ok (.invokestatic 104, 3) := by decide +kernel
theorem dX5_balances_218 : decode cX5_balances 218 = .ok (.iconst 0, 1) := by decide +kernel
theorem dX5_balances_219 : decode cX5_balances 219 = .ok (.iastore, 1) := by decide +kernel
theorem dX5_balances_220 : decode cX5_balances 220 = .ok (.aload_n 0, 1) := by decide +kernel
theorem dX5_balances_221 : decode cX5_balances 221 = .ok (.getfield 54, 3) := by decide +kernel
theorem dX5_balances_224 : decode cX5_balances 224 = .ok (.iload_n 1, 1) := by decide +kernel
theorem dX5_balances_225 : decode cX5_balances 225 = .ok (.iload_n 3, 1) := by decide +kernel
theorem dX5_balances_226 : decode cX5_balances 226 = .ok (.invokestatic 104, 3) := by decide +kernel
theorem dX5_balances_229 : decode cX5_balances 229 = .ok (.iconst 0, 1) := by decide +kernel
theorem dX5_balances_230 : decode cX5_balances 230 = .ok (.iastore, 1) := by decide +kernel
theorem dX5_balances_231 : decode cX5_balances 231 = .ok (.aload_n 0, 1) := by decide +kernel
theorem dX5_balances_232 : decode cX5_balances 232 = .ok (.getfield 36, 3) := by decide +kernel
theorem dX5_balances_235 : decode cX5_balances 235 = .ok (.iload_n 3, 1) := by decide +kernel
theorem dX5_balances_236 : decode cX5_balances 236 = .ok (.iaload, 1) := by decide +kernel
theorem dX5_balances_237 : decode cX5_balances 237 = .ok (.iload_n 1, 1) := by decide +kernel
theorem dX5_balances_238 : decode cX5_balances 238 = .ok (.if_icmp .ne 8, 3) := by decide +kernel
theorem dX5_balances_241 : decode cX5_balances 241 = .ok (.aload_n 0, 1) := by decide +kernel
theorem dX5_balances_242 : decode cX5_balances 242 = .ok (.iload_n 3, 1) := by decide +kernel
theorem dX5_balances_243 : decode cX5_balances 243 = .ok (.invokevirtual 119, 3) := by decide +kernel
theorem dX5_balances_246 : decode cX5_balances 246 = .ok (.return_, 1) := by decide +kernel
theorem dX5_balances_247 : decode cX5_balances 247 = .ok (.iinc 3 1, 3) := by decide +kernel
theorem dX5_balances_250 : decode cX5_balances 250 = .ok (.goto (-127), 3) := by decide +kernel
theorem dX5_balances_253 : decode cX5_balances 253 = .ok (.return_, 1) := by decide +kernel
theorem dX5_rowsOf_0 : decode cX5_rowsOf 0 = .ok (.aload_n 0, 1) := by decide +kernel
theorem dX5_rowsOf_1 : decode cX5_rowsOf 1 = .ok (.getfield 63, 3) := by decide +kernel
theorem dX5_rowsOf_4 : decode cX5_rowsOf 4 = .ok (.iload_n 1, 1) := by decide +kernel
theorem dX5_rowsOf_5 : decode cX5_rowsOf 5 = .ok (.iaload, 1) := by decide +kernel
theorem dX5_rowsOf_6 : decode cX5_rowsOf 6 = .ok (.iconst 2, 1) := by decide +kernel
theorem dX5_rowsOf_7 : decode cX5_rowsOf 7 = .ok (.if_icmp .ne 7, 3) := by decide +kernel
theorem dX5_rowsOf_10 : decode cX5_rowsOf 10 = .ok (.iconst 0, 1) := by decide +kernel
theorem dX5_rowsOf_11 : decode cX5_rowsOf 11 = .ok (.goto 9, 3) := by decide +kernel
theorem dX5_rowsOf_14 : decode cX5_rowsOf 14 = .ok (.aload_n 0, 1) := by decide +kernel
theorem dX5_rowsOf_15 : decode cX5_rowsOf 15 = .ok (.getfield 69, 3) := by decide +kernel
theorem dX5_rowsOf_18 : decode cX5_rowsOf 18 = .ok (.iload_n 1, 1) := by decide +kernel
theorem dX5_rowsOf_19 : decode cX5_rowsOf 19 = .ok (.iaload, 1) := by decide +kernel
theorem dX5_rowsOf_20 : decode cX5_rowsOf 20 = .ok (.ireturn, 1) := by decide +kernel
theorem dX5_state_0 : decode cX5_state 0 = .ok (.aload_n 0, 1) := by decide +kernel
theorem dX5_state_1 : decode cX5_state 1 = .ok (.aload_n 0, 1) := by decide +kernel
theorem dX5_state_2 : decode cX5_state 2 = .ok (.iload_n 1, 1) := by decide +kernel
theorem dX5_state_3 : decode cX5_state 3 = .ok (.invokevirtual 140, 3) := by decide +kernel
theorem dX5_state_6 : decode cX5_state 6 = .ok (.ifCond .eq 7, 3) := by decide +kernel
theorem dX5_state_9 : decode cX5_state 9 = .ok (.iconst 0, 1) := by decide +kernel
theorem dX5_state_10 : decode cX5_state 10 = .ok (.goto 4, 3) := by decide +kernel
theorem dX5_state_13 : decode cX5_state 13 = .ok (.iconst 1, 1) := by decide +kernel
theorem dX5_state_14 : decode cX5_state 14 = .ok (.invokevirtual 91, 3) := by decide +kernel
theorem dX5_state_17 : decode cX5_state 17 = .ok (.ifCond .eq 12, 3) := by decide +kernel
theorem dX5_state_20 : decode cX5_state 20 = .ok (.aload_n 0, 1) := by decide +kernel
theorem dX5_state_21 : decode cX5_state 21 = .ok (.getfield 63, 3) := by decide +kernel
theorem dX5_state_24 : decode cX5_state 24 = .ok (.iload_n 1, 1) := by decide +kernel
theorem dX5_state_25 : decode cX5_state 25 = .ok (.iaload, 1) := by decide +kernel
theorem dX5_state_26 : decode cX5_state 26 = .ok (.goto 4, 3) := by decide +kernel
theorem dX5_state_29 : decode cX5_state 29 = .ok (.iconst 0, 1) := by decide +kernel
theorem dX5_state_30 : decode cX5_state 30 = .ok (.ireturn, 1) := by decide +kernel
theorem dX5_pieces_0 : decode cX5_pieces 0 = .ok (.aload_n 0, 1) := by decide +kernel
theorem dX5_pieces_1 : decode cX5_pieces 1 = .ok (.aload_n 0, 1) := by decide +kernel
theorem dX5_pieces_2 : decode cX5_pieces 2 = .ok (.iload_n 1, 1) := by decide +kernel
theorem dX5_pieces_3 : decode cX5_pieces 3 = .ok (.invokevirtual 140, 3) := by decide +kernel
theorem dX5_pieces_6 : decode cX5_pieces 6 = .ok (.ifCond .eq 7, 3) := by decide +kernel
theorem dX5_pieces_9 : decode cX5_pieces 9 = .ok (.iconst 0, 1) := by decide +kernel
theorem dX5_pieces_10 : decode cX5_pieces 10 = .ok (.goto 4, 3) := by decide +kernel
theorem dX5_pieces_13 : decode cX5_pieces 13 = .ok (.iconst 1, 1) := by decide +kernel
theorem dX5_pieces_14 : decode cX5_pieces 14 = .ok (.invokevirtual 91, 3) := by decide +kernel
theorem dX5_pieces_17 : decode cX5_pieces 17 = .ok (.ifCond .eq 11, 3) := by decide +kernel
theorem dX5_pieces_20 : decode cX5_pieces 20 = .ok (.aload_n 0, 1) := by decide +kernel
theorem dX5_pieces_21 : decode cX5_pieces 21 = .ok (.iload_n 1, 1) := by decide +kernel
theorem dX5_pieces_22 : decode cX5_pieces 22 = .ok (.invokevirtual 207, 3) := by decide +kernel
theorem dX5_pieces_25 : decode cX5_pieces 25 = .ok (.goto 4, 3) := by decide +kernel
theorem dX5_pieces_28 : decode cX5_pieces 28 = .ok (.iconst 0, 1) := by decide +kernel
theorem dX5_pieces_29 : decode cX5_pieces 29 = .ok (.ireturn, 1) := by decide +kernel
theorem dX5_pieceAt_0 : decode cX5_pieceAt 0 = .ok (.aload_n 0, 1) := by decide +kernel
theorem dX5_pieceAt_1 : decode cX5_pieceAt 1 = .ok (.aload_n 0, 1) := by decide +kernel
theorem dX5_pieceAt_2 : decode cX5_pieceAt 2 = .ok (.iload_n 1, 1) := by decide +kernel
theorem dX5_pieceAt_3 : decode cX5_pieceAt 3 = .ok (.invokevirtual 140, 3) := by decide +kernel
theorem dX5_pieceAt_6 : decode cX5_pieceAt 6 = .ok (.ifCond .eq 22, 3) := by decide +kernel
theorem dX5_pieceAt_9 : decode cX5_pieceAt 9 = .ok (.iload_n 2, 1) := by decide +kernel
theorem dX5_pieceAt_10 : decode cX5_pieceAt 10 = .ok (.iconst 0, 1) := by decide +kernel
theorem dX5_pieceAt_11 : decode cX5_pieceAt 11 = .ok (.aload_n 0, 1) := by decide +kernel
theorem dX5_pieceAt_12 : decode cX5_pieceAt 12 = .ok (.iload_n 1, 1) := by decide +kernel
theorem dX5_pieceAt_13 : decode cX5_pieceAt 13 = .ok (.invokevirtual 207, 3) := by decide +kernel
theorem dX5_pieceAt_16 : decode cX5_pieceAt 16 = .ok (.iconst 1, 1) := by decide +kernel
theorem dX5_pieceAt_17 : decode cX5_pieceAt 17 = .ok (.isub, 1) := by decide +kernel
theorem dX5_pieceAt_18 : decode cX5_pieceAt 18 = .ok (.invokestatic 81, 3) := by decide +kernel
theorem dX5_pieceAt_21 : decode cX5_pieceAt 21 = .ok (.ifCond .eq 7, 3) := by decide +kernel
theorem dX5_pieceAt_24 : decode cX5_pieceAt 24 = .ok (.iconst 0, 1) := by decide +kernel
theorem dX5_pieceAt_25 : decode cX5_pieceAt 25 = .ok (.goto 4, 3) := by decide +kernel
theorem dX5_pieceAt_28 : decode cX5_pieceAt 28 = .ok (.iconst 1, 1) := by decide +kernel
theorem dX5_pieceAt_29 : decode cX5_pieceAt 29 = .ok (.invokevirtual 91, 3) := by decide +kernel
theorem dX5_pieceAt_32 : decode cX5_pieceAt 32 = .ok (.ifCond .eq 17, 3) := by decide +kernel
theorem dX5_pieceAt_35 : decode cX5_pieceAt 35 = .ok (.aload_n 0, 1) := by decide +kernel
theorem dX5_pieceAt_36 : decode cX5_pieceAt 36 = .ok (.getfield 72, 3) := by decide +kernel
theorem dX5_pieceAt_39 : decode cX5_pieceAt 39 = .ok (.bipush 6, 2) := by decide +kernel
theorem dX5_pieceAt_41 : decode cX5_pieceAt 41 = .ok (.iload_n 1, 1) := by decide +kernel
theorem dX5_pieceAt_42 : decode cX5_pieceAt 42 = .ok (.imul, 1) := by decide +kernel
theorem dX5_pieceAt_43 : decode cX5_pieceAt 43 = .ok (.iload_n 2, 1) := by decide +kernel
theorem dX5_pieceAt_44 : decode cX5_pieceAt 44 = .ok (.iadd, 1) := by decide +kernel
theorem dX5_pieceAt_45 : decode cX5_pieceAt 45 = .ok (.iaload, 1) := by decide +kernel
theorem dX5_pieceAt_46 : decode cX5_pieceAt 46 = .ok (.goto 4, 3) := by decide +kernel
theorem dX5_pieceAt_49 : decode cX5_pieceAt 49 = .ok (.iconst 0, 1) := by decide +kernel
theorem dX5_pieceAt_50 : decode cX5_pieceAt 50 = .ok (.ireturn, 1) := by decide +kernel
theorem dX5_piece_0 : decode cX5_piece 0 = .ok (.aload_n 0, 1) := by decide +kernel
theorem dX5_piece_1 : decode cX5_piece 1 = .ok (.aload_n 0, 1) := by decide +kernel
theorem dX5_piece_2 : decode cX5_piece 2 = .ok (.iload_n 1, 1) := by decide +kernel
theorem dX5_piece_3 : decode cX5_piece 3 = .ok (.invokevirtual 101, 3) := by decide +kernel
theorem dX5_piece_6 : decode cX5_piece 6 = .ok (.ifCond .ne 7, 3) := by decide +kernel
theorem dX5_piece_9 : decode cX5_piece 9 = .ok (.iconst 1, 1) := by decide +kernel
theorem dX5_piece_10 : decode cX5_piece 10 = .ok (.goto 17, 3) := by decide +kernel
theorem dX5_piece_13 : decode cX5_piece 13 = .ok (.iload_n 2, 1) := by decide +kernel
theorem dX5_piece_14 : decode cX5_piece 14 = .ok (.iconst 0, 1) := by decide +kernel
theorem dX5_piece_15 : decode cX5_piece 15 = .ok (.iconst 5, 1) := by decide +kernel
theorem dX5_piece_16 : decode cX5_piece 16 = .ok (.invokestatic 81, 3) := by decide +kernel
theorem dX5_piece_19 : decode cX5_piece 19 = .ok (.ifCond .eq 7, 3) := by decide +kernel
theorem dX5_piece_22 : decode cX5_piece 22 = .ok (.iconst 0, 1) := by decide +kernel
theorem dX5_piece_23 : decode cX5_piece 23 = .ok (.goto 4, 3) := by decide +kernel
theorem dX5_piece_26 : decode cX5_piece 26 = .ok (.iconst 2, 1) := by decide +kernel
theorem dX5_piece_27 : decode cX5_piece 27 = .ok (.invokevirtual 91, 3) := by decide +kernel
theorem dX5_piece_30 : decode cX5_piece 30 = .ok (.ifCond .ne 5, 3) := by decide +kernel
theorem dX5_piece_33 : decode cX5_piece 33 = .ok (.iconst 0, 1) := by decide +kernel
theorem dX5_piece_34 : decode cX5_piece 34 = .ok (.ireturn, 1) := by decide +kernel
theorem dX5_piece_35 : decode cX5_piece 35 = .ok (.iload_n 2, 1) := by decide +kernel
theorem dX5_piece_36 : decode cX5_piece 36 = .ok (.ifCond .ne 12, 3) := by decide +kernel
theorem dX5_piece_39 : decode cX5_piece 39 = .ok (.aload_n 0, 1) := by decide +kernel
theorem dX5_piece_40 : decode cX5_piece 40 = .ok (.getfield 33, 3) := by decide +kernel
theorem dX5_piece_43 : decode cX5_piece 43 = .ok (.iload_n 1, 1) := by decide +kernel
theorem dX5_piece_44 : decode cX5_piece 44 = .ok (.iaload, 1) := by decide +kernel
theorem dX5_piece_45 : decode cX5_piece 45 = .ok (.goto 88, 3) := by decide +kernel
theorem dX5_piece_48 : decode cX5_piece 48 = .ok (.iload_n 2, 1) := by decide +kernel
theorem dX5_piece_49 : decode cX5_piece 49 = .ok (.iconst 1, 1) := by decide +kernel
theorem dX5_piece_50 : decode cX5_piece 50 = .ok (.if_icmp .ne 12, 3) := by decide +kernel
theorem dX5_piece_53 : decode cX5_piece 53 = .ok (.aload_n 0, 1) := by decide +kernel
theorem dX5_piece_54 : decode cX5_piece 54 = .ok (.getfield 45, 3) := by decide +kernel
theorem dX5_piece_57 : decode cX5_piece 57 = .ok (.iload_n 1, 1) := by decide +kernel
theorem dX5_piece_58 : decode cX5_piece 58 = .ok (.iaload, 1) := by decide +kernel
theorem dX5_piece_59 : decode cX5_piece 59 = .ok (.goto 74, 3) := by decide +kernel
theorem dX5_piece_62 : decode cX5_piece 62 = .ok (.iload_n 2, 1) := by decide +kernel
theorem dX5_piece_63 : decode cX5_piece 63 = .ok (.iconst 2, 1) := by decide +kernel
theorem dX5_piece_64 : decode cX5_piece 64 = .ok (.if_icmp .ne 11, 3) := by decide +kernel
theorem dX5_piece_67 : decode cX5_piece 67 = .ok (.aload_n 0, 1) := by decide +kernel
theorem dX5_piece_68 : decode cX5_piece 68 = .ok (.iload_n 1, 1) := by decide +kernel
theorem dX5_piece_69 : decode cX5_piece 69 = .ok (.invokevirtual 237, 3) := by decide +kernel
theorem dX5_piece_72 : decode cX5_piece 72 = .ok (.goto 61, 3) := by decide +kernel
theorem dX5_piece_75 : decode cX5_piece 75 = .ok (.iload_n 2, 1) := by decide +kernel
theorem dX5_piece_76 : decode cX5_piece 76 = .ok (.iconst 3, 1) := by decide +kernel
theorem dX5_piece_77 : decode cX5_piece 77 = .ok (.if_icmp .ne 24, 3) := by decide +kernel
theorem dX5_piece_80 : decode cX5_piece 80 = .ok (.aload_n 0, 1) := by decide +kernel
theorem dX5_piece_81 : decode cX5_piece 81 = .ok (.iload_n 1, 1) := by decide +kernel
theorem dX5_piece_82 : decode cX5_piece 82 = .ok (.invokevirtual 150, 3) := by decide +kernel
theorem dX5_piece_85 : decode cX5_piece 85 = .ok (.ifCond .eq 12, 3) := by decide +kernel
theorem dX5_piece_88 : decode cX5_piece 88 = .ok (.aload_n 0, 1) := by decide +kernel
theorem dX5_piece_89 : decode cX5_piece 89 = .ok (.getfield 36, 3) := by decide +kernel
theorem dX5_piece_92 : decode cX5_piece 92 = .ok (.iload_n 1, 1) := by decide +kernel
theorem dX5_piece_93 : decode cX5_piece 93 = .ok (.iaload, 1) := by decide +kernel
theorem dX5_piece_94 : decode cX5_piece 94 = .ok (.goto 39, 3) := by decide +kernel
theorem dX5_piece_97 : decode cX5_piece 97 = .ok (.iconst (-1), 1) := by decide +kernel
theorem dX5_piece_98 : decode cX5_piece 98 = .ok (.goto 35, 3) := by decide +kernel
theorem dX5_piece_101 : decode cX5_piece 101 = .ok (.iload_n 2, 1) := by decide +kernel
theorem dX5_piece_102 : decode cX5_piece 102 = .ok (.iconst 4, 1) := by decide +kernel
theorem dX5_piece_103 : decode cX5_piece 103 = .ok (.if_icmp .ne 24, 3) := by decide +kernel
theorem dX5_piece_106 : decode cX5_piece 106 = .ok (.aload_n 0, 1) := by decide +kernel
theorem dX5_piece_107 : decode cX5_piece 107 = .ok (.iload_n 1, 1) := by decide +kernel
theorem dX5_piece_108 : decode cX5_piece 108 = .ok (.invokevirtual 150, 3) := by decide +kernel
theorem dX5_piece_111 : decode cX5_piece 111 = .ok (.ifCond .eq 12, 3) := by decide +kernel
theorem dX5_piece_114 : decode cX5_piece 114 = .ok (.aload_n 0, 1) := by decide +kernel
theorem dX5_piece_115 : decode cX5_piece 115 = .ok (.getfield 39, 3) := by decide +kernel
theorem dX5_piece_118 : decode cX5_piece 118 = .ok (.iload_n 1, 1) := by decide +kernel
theorem dX5_piece_119 : decode cX5_piece 119 = .ok (.iaload, 1) := by decide +kernel
theorem dX5_piece_120 : decode cX5_piece 120 = .ok (.goto 13, 3) := by decide +kernel
theorem dX5_piece_123 : decode cX5_piece 123 = .ok (.iconst (-1), 1) := by decide +kernel
theorem dX5_piece_124 : decode cX5_piece 124 = .ok (.goto 9, 3) := by decide +kernel
theorem dX5_piece_127 : decode cX5_piece 127 = .ok (.aload_n 0, 1) := by decide +kernel
theorem dX5_piece_128 : decode cX5_piece 128 = .ok (.iload_n 1, 1) := by decide +kernel
theorem dX5_piece_129 : decode cX5_piece 129 = .ok (.iconst (-1), 1) := by decide +kernel
theorem dX5_piece_130 : decode cX5_piece 130 = .ok (.invokevirtual 137, 3) := by decide +kernel
theorem dX5_piece_133 : decode cX5_piece 133 = .ok (.ireturn, 1) := by decide +kernel
theorem dX5_copyAt_0 : decode cX5_copyAt 0 = .ok (.aload_n 0, 1) := by decide +kernel
theorem dX5_copyAt_1 : decode cX5_copyAt 1 = .ok (.aload_n 0, 1) := by decide +kernel
theorem dX5_copyAt_2 : decode cX5_copyAt 2 = .ok (.iload_n 1, 1) := by decide +kernel
theorem dX5_copyAt_3 : decode cX5_copyAt 3 = .ok (.invokevirtual 101, 3) := by decide +kernel
theorem dX5_copyAt_6 : decode cX5_copyAt 6 = .ok (.ifCond .eq 23, 3) := by decide +kernel
theorem dX5_copyAt_9 : decode cX5_copyAt 9 = .ok (.iload_n 2, 1) := by decide +kernel
theorem dX5_copyAt_10 : decode cX5_copyAt 10 = .ok (.iconst 0, 1) := by decide +kernel
theorem dX5_copyAt_11 : decode cX5_copyAt 11 = .ok (.aload_n 0, 1) := by decide +kernel
theorem dX5_copyAt_12 : decode cX5_copyAt 12 = .ok (.getfield 45, 3) := by decide +kernel
theorem dX5_copyAt_15 : decode cX5_copyAt 15 = .ok (.iload_n 1, 1) := by decide +kernel
theorem dX5_copyAt_16 : decode cX5_copyAt 16 = .ok (.iaload, 1) := by decide +kernel
theorem dX5_copyAt_17 : decode cX5_copyAt 17 = .ok (.iconst 1, 1) := by decide +kernel
theorem dX5_copyAt_18 : decode cX5_copyAt 18 = .ok (.isub, 1) := by decide +kernel
theorem dX5_copyAt_19 : decode cX5_copyAt 19 = .ok (.invokestatic 81, 3) := by decide +kernel
theorem dX5_copyAt_22 : decode cX5_copyAt 22 = .ok (.ifCond .eq 7, 3) := by decide +kernel
theorem dX5_copyAt_25 : decode cX5_copyAt 25 = .ok (.iconst 0, 1) := by decide +kernel
theorem dX5_copyAt_26 : decode cX5_copyAt 26 = .ok (.goto 4, 3) := by decide +kernel
theorem dX5_copyAt_29 : decode cX5_copyAt 29 = .ok (.iconst 1, 1) := by decide +kernel
theorem dX5_copyAt_30 : decode cX5_copyAt 30 = .ok (.invokevirtual 91, 3) := by decide +kernel
theorem dX5_copyAt_33 : decode cX5_copyAt 33 = .ok (.ifCond .eq 17, 3) := by decide +kernel
theorem dX5_copyAt_36 : decode cX5_copyAt 36 = .ok (.aload_n 0, 1) := by decide +kernel
theorem dX5_copyAt_37 : decode cX5_copyAt 37 = .ok (.getfield 48, 3) := by decide +kernel
theorem dX5_copyAt_40 : decode cX5_copyAt 40 = .ok (.bipush 8, 2) := by decide +kernel
theorem dX5_copyAt_42 : decode cX5_copyAt 42 = .ok (.iload_n 1, 1) := by decide +kernel
theorem dX5_copyAt_43 : decode cX5_copyAt 43 = .ok (.imul, 1) := by decide +kernel
theorem dX5_copyAt_44 : decode cX5_copyAt 44 = .ok (.iload_n 2, 1) := by decide +kernel
theorem dX5_copyAt_45 : decode cX5_copyAt 45 = .ok (.iadd, 1) := by decide +kernel
theorem dX5_copyAt_46 : decode cX5_copyAt 46 = .ok (.iaload, 1) := by decide +kernel
theorem dX5_copyAt_47 : decode cX5_copyAt 47 = .ok (.goto 4, 3) := by decide +kernel
theorem dX5_copyAt_50 : decode cX5_copyAt 50 = .ok (.iconst 0, 1) := by decide +kernel
theorem dX5_copyAt_51 : decode cX5_copyAt 51 = .ok (.ireturn, 1) := by decide +kernel
theorem dX5_on_0 : decode cX5_on 0 = .ok (.aload_n 0, 1) := by decide +kernel
theorem dX5_on_1 : decode cX5_on 1 = .ok (.aload_n 0, 1) := by decide +kernel
theorem dX5_on_2 : decode cX5_on 2 = .ok (.iload_n 1, 1) := by decide +kernel
theorem dX5_on_3 : decode cX5_on 3 = .ok (.invokevirtual 95, 3) := by decide +kernel
theorem dX5_on_6 : decode cX5_on 6 = .ok (.ifCond .eq 11, 3) := by decide +kernel
theorem dX5_on_9 : decode cX5_on 9 = .ok (.aload_n 0, 1) := by decide +kernel
theorem dX5_on_10 : decode cX5_on 10 = .ok (.iload_n 2, 1) := by decide +kernel
theorem dX5_on_11 : decode cX5_on 11 = .ok (.invokevirtual 101, 3) := by decide +kernel
theorem dX5_on_14 : decode cX5_on 14 = .ok (.ifCond .ne 7, 3) := by decide +kernel
theorem dX5_on_17 : decode cX5_on 17 = .ok (.iconst 1, 1) := by decide +kernel
theorem dX5_on_18 : decode cX5_on 18 = .ok (.goto 17, 3) := by decide +kernel
theorem dX5_on_21 : decode cX5_on 21 = .ok (.iload_n 3, 1) := by decide +kernel
theorem dX5_on_22 : decode cX5_on 22 = .ok (.iconst 0, 1) := by decide +kernel
theorem dX5_on_23 : decode cX5_on 23 = .ok (.iconst 2, 1) := by decide +kernel
theorem dX5_on_24 : decode cX5_on 24 = .ok (.invokestatic 81, 3) := by decide +kernel
theorem dX5_on_27 : decode cX5_on 27 = .ok (.ifCond .eq 7, 3) := by decide +kernel
theorem dX5_on_30 : decode cX5_on 30 = .ok (.iconst 0, 1) := by decide +kernel
theorem dX5_on_31 : decode cX5_on 31 = .ok (.goto 4, 3) := by decide +kernel
theorem dX5_on_34 : decode cX5_on 34 = .ok (.iconst 2, 1) := by decide +kernel
theorem dX5_on_35 : decode cX5_on 35 = .ok (.invokevirtual 91, 3) := by decide +kernel
theorem dX5_on_38 : decode cX5_on 38 = .ok (.ifCond .ne 5, 3) := by decide +kernel
theorem dX5_on_41 : decode cX5_on 41 = .ok (.iconst 0, 1) := by decide +kernel
theorem dX5_on_42 : decode cX5_on 42 = .ok (.ireturn, 1) := by decide +kernel
theorem dX5_on_43 : decode cX5_on 43 = .ok (.iload_n 1, 1) := by decide +kernel
theorem dX5_on_44 : decode cX5_on 44 = .ok (.iload_n 2, 1) := by decide +kernel
theorem dX5_on_45 : decode cX5_on 45 = .ok (.invokestatic 104, 3) := by decide +kernel
theorem dX5_on_48 : decode cX5_on 48 = .ok (.istore 4, 2) := by decide +kernel
theorem dX5_on_50 : decode cX5_on 50 = .ok (.aload_n 0, 1) := by decide +kernel
theorem dX5_on_51 : decode cX5_on 51 = .ok (.getfield 51, 3) := by decide +kernel
theorem dX5_on_54 : decode cX5_on 54 = .ok (.iload 4, 2) := by decide +kernel
theorem dX5_on_56 : decode cX5_on 56 = .ok (.iaload, 1) := by decide +kernel
theorem dX5_on_57 : decode cX5_on 57 = .ok (.ifCond .ne 7, 3) := by decide +kernel
theorem dX5_on_60 : decode cX5_on 60 = .ok (.iconst (-1), 1) := by decide +kernel
theorem dX5_on_61 : decode cX5_on 61 = .ok (.goto 39, 3) := by decide +kernel
theorem dX5_on_64 : decode cX5_on 64 = .ok (.iload_n 3, 1) := by decide +kernel
theorem dX5_on_65 : decode cX5_on 65 = .ok (.ifCond .ne 13, 3) := by decide +kernel
theorem dX5_on_68 : decode cX5_on 68 = .ok (.aload_n 0, 1) := by decide +kernel
theorem dX5_on_69 : decode cX5_on 69 = .ok (.getfield 51, 3) := by decide +kernel
theorem dX5_on_72 : decode cX5_on 72 = .ok (.iload 4, 2) := by decide +kernel
theorem dX5_on_74 : decode cX5_on 74 = .ok (.iaload, 1) := by decide +kernel
theorem dX5_on_75 : decode cX5_on 75 = .ok (.goto 25, 3) := by decide +kernel
theorem dX5_on_78 : decode cX5_on 78 = .ok (.iload_n 3, 1) := by decide +kernel
theorem dX5_on_79 : decode cX5_on 79 = .ok (.iconst 1, 1) := by decide +kernel
theorem dX5_on_80 : decode cX5_on 80 = .ok (.if_icmp .ne 13, 3) := by decide +kernel
theorem dX5_on_83 : decode cX5_on 83 = .ok (.aload_n 0, 1) := by decide +kernel
theorem dX5_on_84 : decode cX5_on 84 = .ok (.getfield 54, 3) := by decide +kernel
theorem dX5_on_87 : decode cX5_on 87 = .ok (.iload 4, 2) := by decide +kernel
theorem dX5_on_89 : decode cX5_on 89 = .ok (.iaload, 1) := by decide +kernel
theorem dX5_on_90 : decode cX5_on 90 = .ok (.goto 10, 3) := by decide +kernel
theorem dX5_on_93 : decode cX5_on 93 = .ok (.aload_n 0, 1) := by decide +kernel
theorem dX5_on_94 : decode cX5_on 94 = .ok (.getfield 60, 3) := by decide +kernel
theorem dX5_on_97 : decode cX5_on 97 = .ok (.iload 4, 2) := by decide +kernel
theorem dX5_on_99 : decode cX5_on 99 = .ok (.iaload, 1) := by decide +kernel
theorem dX5_on_100 : decode cX5_on 100 = .ok (.ireturn, 1) := by decide +kernel
theorem dX5_cellOn_0 : decode cX5_cellOn 0 = .ok (.aload_n 0, 1) := by decide +kernel
theorem dX5_cellOn_1 : decode cX5_cellOn 1 = .ok (.aload_n 0, 1) := by decide +kernel
theorem dX5_cellOn_2 : decode cX5_cellOn 2 = .ok (.iload_n 1, 1) := by decide +kernel
theorem dX5_cellOn_3 : decode cX5_cellOn 3 = .ok (.invokevirtual 95, 3) := by decide +kernel
theorem dX5_cellOn_6 : decode cX5_cellOn 6 = .ok (.ifCond .eq 24, 3) := by decide +kernel
theorem dX5_cellOn_9 : decode cX5_cellOn 9 = .ok (.aload_n 0, 1) := by decide +kernel
theorem dX5_cellOn_10 : decode cX5_cellOn 10 = .ok (.iload_n 2, 1) := by decide +kernel
theorem dX5_cellOn_11 : decode cX5_cellOn 11 = .ok (.invokevirtual 101, 3) := by decide +kernel
theorem dX5_cellOn_14 : decode cX5_cellOn 14 = .ok (.ifCond .eq 16, 3) := by decide +kernel
theorem dX5_cellOn_17 : decode cX5_cellOn 17 = .ok (.iload_n 3, 1) := by decide +kernel
theorem dX5_cellOn_18 : decode cX5_cellOn 18 = .ok (.iconst 0, 1) := by decide +kernel
theorem dX5_cellOn_19 : decode cX5_cellOn 19 = .ok (.iconst 3, 1) := by decide +kernel
theorem dX5_cellOn_20 : decode cX5_cellOn 20 = .ok (.invokestatic 81, 3) := by decide +kernel
theorem dX5_cellOn_23 : decode cX5_cellOn 23 = .ok (.ifCond .eq 7, 3) := by decide +kernel
theorem dX5_cellOn_26 : decode cX5_cellOn 26 = .ok (.iconst 0, 1) := by decide +kernel
theorem dX5_cellOn_27 : decode cX5_cellOn 27 = .ok (.goto 4, 3) := by decide +kernel
theorem dX5_cellOn_30 : decode cX5_cellOn 30 = .ok (.iconst 1, 1) := by decide +kernel
theorem dX5_cellOn_31 : decode cX5_cellOn 31 = .ok (.invokevirtual 91, 3) := by decide +kernel
theorem dX5_cellOn_34 : decode cX5_cellOn 34 = .ok (.ifCond .ne 5, 3) := by decide +kernel
theorem dX5_cellOn_37 : decode cX5_cellOn 37 = .ok (.iconst 0, 1) := by decide +kernel
theorem dX5_cellOn_38 : decode cX5_cellOn 38 = .ok (.ireturn, 1) := by decide +kernel
theorem dX5_cellOn_39 : decode cX5_cellOn 39 = .ok (.iload_n 1, 1) := by decide +kernel
theorem dX5_cellOn_40 : decode cX5_cellOn 40 = .ok (.iload_n 2, 1) := by decide +kernel
theorem dX5_cellOn_41 : decode cX5_cellOn 41 = .ok (.invokestatic 104, 3) := by decide +kernel
theorem dX5_cellOn_44 : decode cX5_cellOn 44 = .ok (.istore 4, 2) := by decide +kernel
theorem dX5_cellOn_46 : decode cX5_cellOn 46 = .ok (.aload_n 0, 1) := by decide +kernel
theorem dX5_cellOn_47 : decode cX5_cellOn 47 = .ok (.getfield 51, 3) := by decide +kernel
theorem dX5_cellOn_50 : decode cX5_cellOn 50 = .ok (.iload 4, 2) := by decide +kernel
theorem dX5_cellOn_52 : decode cX5_cellOn 52 = .ok (.iaload, 1) := by decide +kernel
theorem dX5_cellOn_53 : decode cX5_cellOn 53 = .ok (.ifCond .eq 14, 3) := by decide +kernel
theorem dX5_cellOn_56 : decode cX5_cellOn 56 = .ok (.aload_n 0, 1) := by decide +kernel
theorem dX5_cellOn_57 : decode cX5_cellOn 57 = .ok (.getfield 54, 3) := by decide +kernel
theorem dX5_cellOn_60 : decode cX5_cellOn 60 = .ok (.iload 4, 2) := by decide +kernel
theorem dX5_cellOn_62 : decode cX5_cellOn 62 = .ok (.iaload, 1) := by decide +kernel
theorem dX5_cellOn_63 : decode cX5_cellOn 63 = .ok (.iload_n 3, 1) := by decide +kernel
theorem dX5_cellOn_64 : decode cX5_cellOn 64 = .ok (.if_icmp .gt 7, 3) := by decide +kernel
theorem dX5_cellOn_67 : decode cX5_cellOn 67 = .ok (.iconst (-1), 1) := by decide +kernel
theorem dX5_cellOn_68 : decode cX5_cellOn 68 = .ok (.goto 14, 3) := by decide +kernel
theorem dX5_cellOn_71 : decode cX5_cellOn 71 = .ok (.aload_n 0, 1) := by decide +kernel
theorem dX5_cellOn_72 : decode cX5_cellOn 72 = .ok (.getfield 57, 3) := by decide +kernel
theorem dX5_cellOn_75 : decode cX5_cellOn 75 = .ok (.iconst 4, 1) := by decide +kernel
theorem dX5_cellOn_76 : decode cX5_cellOn 76 = .ok (.iload 4, 2) := by decide +kernel
theorem dX5_cellOn_78 : decode cX5_cellOn 78 = .ok (.imul, 1) := by decide +kernel
theorem dX5_cellOn_79 : decode cX5_cellOn 79 = .ok (.iload_n 3, 1) := by decide +kernel
theorem dX5_cellOn_80 : decode cX5_cellOn 80 = .ok (.iadd, 1) := by decide +kernel
theorem dX5_cellOn_81 : decode cX5_cellOn 81 = .ok (.iaload, 1) := by decide +kernel
theorem dX5_cellOn_82 : decode cX5_cellOn 82 = .ok (.ireturn, 1) := by decide +kernel
theorem dX5_load_0 : decode cX5_load 0 = .ok (.aload_n 0, 1) := by decide +kernel
theorem dX5_load_1 : decode cX5_load 1 = .ok (.aload_n 0, 1) := by decide +kernel
theorem dX5_load_2 : decode cX5_load 2 = .ok (.iload_n 1, 1) := by decide +kernel
theorem dX5_load_3 : decode cX5_load 3 = .ok (.invokevirtual 95, 3) := by decide +kernel
theorem dX5_load_6 : decode cX5_load 6 = .ok (.ifCond .eq 7, 3) := by decide +kernel
theorem dX5_load_9 : decode cX5_load 9 = .ok (.iconst 0, 1) := by decide +kernel
theorem dX5_load_10 : decode cX5_load 10 = .ok (.goto 4, 3) := by decide +kernel
theorem dX5_load_13 : decode cX5_load 13 = .ok (.iconst 1, 1) := by decide +kernel
theorem dX5_load_14 : decode cX5_load 14 = .ok (.invokevirtual 91, 3) := by decide +kernel
theorem dX5_load_17 : decode cX5_load 17 = .ok (.ifCond .eq 11, 3) := by decide +kernel
theorem dX5_load_20 : decode cX5_load 20 = .ok (.aload_n 0, 1) := by decide +kernel
theorem dX5_load_21 : decode cX5_load 21 = .ok (.iload_n 1, 1) := by decide +kernel
theorem dX5_load_22 : decode cX5_load 22 = .ok (.invokevirtual 127, 3) := by decide +kernel
theorem dX5_load_25 : decode cX5_load 25 = .ok (.goto 4, 3) := by decide +kernel
theorem dX5_load_28 : decode cX5_load 28 = .ok (.iconst 0, 1) := by decide +kernel
theorem dX5_load_29 : decode cX5_load 29 = .ok (.ireturn, 1) := by decide +kernel
theorem dX5_isCounted_0 : decode cX5_isCounted 0 = .ok (.aload_n 0, 1) := by decide +kernel
theorem dX5_isCounted_1 : decode cX5_isCounted 1 = .ok (.aload_n 0, 1) := by decide +kernel
theorem dX5_isCounted_2 : decode cX5_isCounted 2 = .ok (.iload_n 1, 1) := by decide +kernel
theorem dX5_isCounted_3 : decode cX5_isCounted 3 = .ok (.invokevirtual 95, 3) := by decide +kernel
theorem dX5_isCounted_6 : decode cX5_isCounted 6 = .ok (.ifCond .eq 7, 3) := by decide +kernel
theorem dX5_isCounted_9 : decode cX5_isCounted 9 = .ok (.iconst 0, 1) := by decide +kernel
theorem dX5_isCounted_10 : decode cX5_isCounted 10 = .ok (.goto 4, 3) := by decide +kernel
theorem dX5_isCounted_13 : decode cX5_isCounted 13 = .ok (.iconst 1, 1) := by decide +kernel
theorem dX5_isCounted_14 : decode cX5_isCounted 14 = .ok (.invokevirtual 91, 3) := by decide +kernel
theorem dX5_isCounted_17 : decode cX5_isCounted 17 = .ok (.ifCond .eq 16, 3) := by decide +kernel
theorem dX5_isCounted_20 : decode cX5_isCounted 20 = .ok (.aload_n 0, 1) := by decide +kernel
theorem dX5_isCounted_21 : decode cX5_isCounted 21 = .ok (.getfield 27, 3) := by decide +kernel
theorem dX5_isCounted_24 : decode cX5_isCounted 24 = .ok (.iload_n 1, 1) := by decide +kernel
theorem dX5_isCounted_25 : decode cX5_isCounted 25 = .ok (.baload, 1) := by decide +kernel
theorem dX5_isCounted_26 : decode cX5_isCounted 26 = .ok (.ifCond .eq 7, 3) := by decide +kernel
theorem dX5_isCounted_29 : decode cX5_isCounted 29 = .ok (.iconst 1, 1) := by decide +kernel
theorem dX5_isCounted_30 : decode cX5_isCounted 30 = .ok (.goto 4, 3) := by decide +kernel
theorem dX5_isCounted_33 : decode cX5_isCounted 33 = .ok (.iconst 0, 1) := by decide +kernel
theorem dX5_isCounted_34 : decode cX5_isCounted 34 = .ok (.ireturn, 1) := by decide +kernel
theorem dX5_isMisplaced_0 : decode cX5_isMisplaced 0 = .ok (.aload_n 0, 1) := by decide +kernel
theorem dX5_isMisplaced_1 : decode cX5_isMisplaced 1 = .ok (.getfield 45, 3) := by decide +kernel
theorem dX5_isMisplaced_4 : decode cX5_isMisplaced 4 = .ok (.iload_n 1, 1) := by decide +kernel
theorem dX5_isMisplaced_5 : decode cX5_isMisplaced 5 = .ok (.iaload, 1) := by decide +kernel
theorem dX5_isMisplaced_6 : decode cX5_isMisplaced 6 = .ok (.iconst 1, 1) := by decide +kernel
theorem dX5_isMisplaced_7 : decode cX5_isMisplaced 7 = .ok (.if_icmp .le 35, 3) := by decide +kernel
theorem dX5_isMisplaced_10 : decode cX5_isMisplaced 10 = .ok (.aload_n 0, 1) := by decide +kernel
theorem dX5_isMisplaced_11 : decode cX5_isMisplaced 11 = .ok (.iload_n 1, 1) := by decide +kernel
theorem dX5_isMisplaced_12 : decode cX5_isMisplaced 12 = .ok (.aload_n 0, 1) := by decide +kernel
theorem dX5_isMisplaced_13 : decode cX5_isMisplaced 13 = .ok (.getfield 13, 3) := by decide +kernel
theorem dX5_isMisplaced_16 : decode cX5_isMisplaced 16 = .ok (.aload_n 0, 1) := by decide +kernel
theorem dX5_isMisplaced_17 : decode cX5_isMisplaced 17 = .ok (.getfield 48, 3) := by decide +kernel
theorem dX5_isMisplaced_20 : decode cX5_isMisplaced 20 = .ok (.bipush 8, 2) := by decide +kernel
theorem dX5_isMisplaced_22 : decode cX5_isMisplaced 22 = .ok (.iload_n 1, 1) := by decide +kernel
theorem dX5_isMisplaced_23 : decode cX5_isMisplaced 23 = .ok (.imul, 1) := by decide +kernel
theorem dX5_isMisplaced_24 : decode cX5_isMisplaced 24 = .ok (.iaload, 1) := by decide +kernel
theorem dX5_isMisplaced_25 : decode cX5_isMisplaced 25 = .ok (.iaload, 1) := by decide +kernel
theorem dX5_isMisplaced_26 : decode cX5_isMisplaced 26 = .ok (.invokevirtual 134, 3) := by decide +kernel
theorem dX5_isMisplaced_29 : decode cX5_isMisplaced 29 = .ok (.aload_n 0, 1) := by decide +kernel
theorem dX5_isMisplaced_30 : decode cX5_isMisplaced 30 = .ok (.getfield 45, 3) := by decide +kernel
theorem dX5_isMisplaced_33 : decode cX5_isMisplaced 33 = .ok (.iload_n 1, 1) := by decide +kernel
theorem dX5_isMisplaced_34 : decode cX5_isMisplaced 34 = .ok (.iaload, 1) := by decide +kernel
theorem dX5_isMisplaced_35 : decode cX5_isMisplaced 35 = .ok (.if_icmp .ne 7, 3) := by decide +kernel
theorem dX5_isMisplaced_38 : decode cX5_isMisplaced 38 = .ok (.iconst 1, 1) := by decide +kernel
theorem dX5_isMisplaced_39 : decode cX5_isMisplaced 39 = .ok (.goto 4, 3) := by decide +kernel
theorem dX5_isMisplaced_42 : decode cX5_isMisplaced 42 = .ok (.iconst 0, 1) := by decide +kernel
theorem dX5_isMisplaced_43 : decode cX5_isMisplaced 43 = .ok (.ireturn, 1) := by decide +kernel
theorem dX5_walk_0 : decode cX5_walk 0 = .ok (.aload_n 0, 1) := by decide +kernel
theorem dX5_walk_1 : decode cX5_walk 1 = .ok (.iload_n 1, 1) := by decide +kernel
theorem dX5_walk_2 : decode cX5_walk 2 = .ok (.iconst 0, 1) := by decide +kernel
theorem dX5_walk_3 : decode cX5_walk 3 = .ok (.iconst 3, 1) := by decide +kernel
theorem dX5_walk_4 : decode cX5_walk 4 = .ok (.invokestatic 81, 3) := by decide +kernel
theorem dX5_walk_7 : decode cX5_walk 7 = .ok (.ifCond .eq 7, 3) := by decide +kernel
theorem dX5_walk_10 : decode cX5_walk 10 = .ok (.iconst 0, 1) := by decide +kernel
theorem dX5_walk_11 : decode cX5_walk 11 = .ok (.goto 4, 3) := by decide +kernel
theorem dX5_walk_14 : decode cX5_walk 14 = .ok (.iconst 1, 1) := by decide +kernel
theorem dX5_walk_15 : decode cX5_walk 15 = .ok (.invokevirtual 91, 3) := by decide +kernel
theorem dX5_walk_18 : decode cX5_walk 18 = .ok (.ifCond .ne 5, 3) := by decide +kernel
theorem dX5_walk_21 : decode cX5_walk 21 = .ok (.iconst 0, 1) := by decide +kernel
theorem dX5_walk_22 : decode cX5_walk 22 = .ok (.ireturn, 1) := by decide +kernel
theorem dX5_walk_23 : decode cX5_walk 23 = .ok (.iconst 0, 1) := by decide +kernel
theorem dX5_walk_24 : decode cX5_walk 24 = .ok (.istore_n 2, 1) := by decide +kernel
theorem dX5_walk_25 : decode cX5_walk 25 = .ok (.iconst 0, 1) := by decide +kernel
theorem dX5_walk_26 : decode cX5_walk 26 = .ok (.istore_n 3, 1) := by decide +kernel
theorem dX5_walk_27 : decode cX5_walk 27 = .ok (.iload_n 3, 1) := by decide +kernel
theorem dX5_walk_28 : decode cX5_walk 28 = .ok (.aload_n 0, 1) := by decide +kernel
theorem dX5_walk_29 : decode cX5_walk 29 = .ok (.getfield 85, 3) := by decide +kernel
theorem dX5_walk_32 : decode cX5_walk 32 = .ok (.if_icmp .ge 103, 3) := by decide +kernel
theorem dX5_walk_35 : decode cX5_walk 35 = .ok (.iload_n 1, 1) := by decide +kernel
theorem dX5_walk_36 : decode cX5_walk 36 = .ok (.ifCond .ne 19, 3) := by decide +kernel
theorem dX5_walk_39 : decode cX5_walk 39 = .ok (.aload_n 0, 1) := by decide +kernel
theorem dX5_walk_40 : decode cX5_walk 40 = .ok (.iload_n 3, 1) := by decide +kernel
theorem dX5_walk_41 : decode cX5_walk 41 = .ok (.invokevirtual 237, 3) := by decide +kernel
theorem dX5_walk_44 : decode cX5_walk 44 = .ok (.ifCond .ne 7, 3) := by decide +kernel
theorem dX5_walk_47 : decode cX5_walk 47 = .ok (.iconst 1, 1) := by decide +kernel
theorem dX5_walk_48 : decode cX5_walk 48 = .ok (.goto 58, 3) := by decide +kernel
theorem dX5_walk_51 : decode cX5_walk 51 = .ok (.iconst 0, 1) := by decide +kernel
theorem dX5_walk_52 : decode cX5_walk 52 = .ok (.goto 54, 3) := by decide +kernel
theorem dX5_walk_55 : decode cX5_walk 55 = .ok (.iload_n 1, 1) := by decide +kernel
theorem dX5_walk_56 : decode cX5_walk 56 = .ok (.iconst 1, 1) := by decide +kernel
theorem dX5_walk_57 : decode cX5_walk 57 = .ok (.if_icmp .ne 21, 3) := by decide +kernel
theorem dX5_walk_60 : decode cX5_walk 60 = .ok (.aload_n 0, 1) := by decide +kernel
theorem dX5_walk_61 : decode cX5_walk 61 = .ok (.getfield 45, 3) := by decide +kernel
theorem dX5_walk_64 : decode cX5_walk 64 = .ok (.iload_n 3, 1) := by decide +kernel
theorem dX5_walk_65 : decode cX5_walk 65 = .ok (.iaload, 1) := by decide +kernel
theorem dX5_walk_66 : decode cX5_walk 66 = .ok (.iconst 3, 1) := by decide +kernel
theorem dX5_walk_67 : decode cX5_walk 67 = .ok (.if_icmp .ge 7, 3) := by decide +kernel
theorem dX5_walk_70 : decode cX5_walk 70 = .ok (.iconst 1, 1) := by decide +kernel
theorem dX5_walk_71 : decode cX5_walk 71 = .ok (.goto 35, 3) := by decide +kernel
theorem dX5_walk_74 : decode cX5_walk 74 = .ok (.iconst 0, 1) := by decide +kernel
theorem dX5_walk_75 : decode cX5_walk 75 = .ok (.goto 31, 3) := by decide +kernel
theorem dX5_walk_78 : decode cX5_walk 78 = .ok (.iload_n 1, 1) := by decide +kernel
theorem dX5_walk_79 : decode cX5_walk 79 = .ok (.iconst 2, 1) := by decide +kernel
theorem dX5_walk_80 : decode cX5_walk 80 = .ok (.if_icmp .ne 21, 3) := by decide +kernel
theorem dX5_walk_83 : decode cX5_walk 83 = .ok (.aload_n 0, 1) := by decide +kernel
theorem dX5_walk_84 : decode cX5_walk 84 = .ok (.getfield 45, 3) := by decide +kernel
theorem dX5_walk_87 : decode cX5_walk 87 = .ok (.iload_n 3, 1) := by decide +kernel
theorem dX5_walk_88 : decode cX5_walk 88 = .ok (.iaload, 1) := by decide +kernel
theorem dX5_walk_89 : decode cX5_walk 89 = .ok (.iconst 3, 1) := by decide +kernel
theorem dX5_walk_90 : decode cX5_walk 90 = .ok (.if_icmp .le 7, 3) := by decide +kernel
theorem dX5_walk_93 : decode cX5_walk 93 = .ok (.iconst 1, 1) := by decide +kernel
theorem dX5_walk_94 : decode cX5_walk 94 = .ok (.goto 12, 3) := by decide +kernel
theorem dX5_walk_97 : decode cX5_walk 97 = .ok (.iconst 0, 1) := by decide +kernel
theorem dX5_walk_98 : decode cX5_walk 98 = .ok (.goto 8, 3) := by decide +kernel
theorem dX5_walk_101 : decode cX5_walk 101 = .ok (.aload_n 0, 1) := by decide +kernel
theorem dX5_walk_102 : decode cX5_walk 102 = .ok (.iload_n 3, 1) := by decide +kernel
theorem dX5_walk_103 : decode cX5_walk 103 = .ok (.invokevirtual 240, 3) := by decide +kernel
theorem dX5_walk_106 : decode cX5_walk 106 = .ok (.istore 4, 2) := by decide +kernel
theorem dX5_walk_108 : decode cX5_walk 108 = .ok (.iload_n 2, 1) := by decide +kernel
theorem dX5_walk_109 : decode cX5_walk 109 = .ok (.iload 4, 2) := by decide +kernel
theorem dX5_walk_111 : decode cX5_walk 111 = .ok (.ifCond .eq 15, 3) := by decide +kernel
theorem dX5_walk_114 : decode cX5_walk 114 = .ok (.aload_n 0, 1) := by decide +kernel
theorem dX5_walk_115 : decode cX5_walk 115 = .ok (.iload_n 3, 1) := by decide +kernel
theorem dX5_walk_116 : decode cX5_walk 116 = .ok (.invokevirtual 228, 3) := by decide +kernel
theorem dX5_walk_119 : decode cX5_walk 119 = .ok (.ifCond .ne 7, 3) := by decide +kernel
theorem dX5_walk_122 : decode cX5_walk 122 = .ok (.iconst 1, 1) := by decide +kernel
theorem dX5_walk_123 : decode cX5_walk 123 = .ok (.goto 4, 3) := by decide +kernel
theorem dX5_walk_126 : decode cX5_walk 126 = .ok (.iconst 0, 1) := by decide +kernel
theorem dX5_walk_127 : decode cX5_walk 127 = .ok (.iadd, 1) := by decide +kernel
theorem dX5_walk_128 : decode cX5_walk 128 = .ok (.istore_n 2, 1) := by decide +kernel
theorem dX5_walk_129 : decode cX5_walk 129 = .ok (.iinc 3 1, 3) := by decide +kernel
theorem dX5_walk_132 : decode cX5_walk 132 = .ok (.goto (-105), 3) := by decide +kernel
theorem dX5_walk_135 : decode cX5_walk 135 = .ok (.iload_n 2, 1) := by decide +kernel
theorem dX5_walk_136 : decode cX5_walk 136 = .ok (.ireturn, 1) := by decide +kernel
