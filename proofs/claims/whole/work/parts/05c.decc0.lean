theorem dX5_init_0 : decode cX5_init 0 = .ok (.aload_n 0, 1) := by decide +kernel
theorem dX5_init_1 : decode cX5_init 1 = .ok (.invokespecial 1, 3) := by decide +kernel
theorem dX5_init_4 : decode cX5_init 4 = .ok (.aload_n 0, 1) := by decide +kernel
theorem dX5_init_5 : decode cX5_init 5 = .ok (.iconst 1, 1) := by decide +kernel
theorem dX5_init_6 : decode cX5_init 6 = .ok (.putfield 7, 3) := by decide +kernel
theorem dX5_init_9 : decode cX5_init 9 = .ok (.aload_n 0, 1) := by decide +kernel
theorem dX5_init_10 : decode cX5_init 10 = .ok (.bipush 8, 2) := by decide +kernel
theorem dX5_init_12 : decode cX5_init 12 = .ok (.newarray .int, 2) := by decide +kernel
theorem dX5_init_14 : decode cX5_init 14 = .ok (.putfield 13, 3) := by decide +kernel
theorem dX5_init_17 : decode cX5_init 17 = .ok (.aload_n 0, 1) := by decide +kernel
theorem dX5_init_18 : decode cX5_init 18 = .ok (.bipush 8, 2) := by decide +kernel
theorem dX5_init_20 : decode cX5_init 20 = .ok (.newarray .int, 2) := by decide +kernel
theorem dX5_init_22 : decode cX5_init 22 = .ok (.putfield 17, 3) := by decide +kernel
theorem dX5_init_25 : decode cX5_init 25 = .ok (.aload_n 0, 1) := by decide +kernel
theorem dX5_init_26 : decode cX5_init 26 = .ok (.bipush 8, 2) := by decide +kernel
theorem dX5_init_28 : decode cX5_init 28 = .ok (.newarray .boolean, 2) := by decide +kernel
theorem dX5_init_30 : decode cX5_init 30 = .ok (.putfield 20, 3) := by decide +kernel
theorem dX5_init_33 : decode cX5_init 33 = .ok (.aload_n 0, 1) := by decide +kernel
theorem dX5_init_34 : decode cX5_init 34 = .ok (.bipush 8, 2) := by decide +kernel
theorem dX5_init_36 : decode cX5_init 36 = .ok (.newarray .int, 2) := by decide +kernel
theorem dX5_init_38 : decode cX5_init 38 = .ok (.putfield 24, 3) := by decide +kernel
theorem dX5_init_41 : decode cX5_init 41 = .ok (.aload_n 0, 1) := by decide +kernel
theorem dX5_init_42 : decode cX5_init 42 = .ok (.bipush 8, 2) := by decide +kernel
theorem dX5_init_44 : decode cX5_init 44 = .ok (.newarray .boolean, 2) := by decide +kernel
theorem dX5_init_46 : decode cX5_init 46 = .ok (.putfield 27, 3) := by decide +kernel
theorem dX5_init_49 : decode cX5_init 49 = .ok (.aload_n 0, 1) := by decide +kernel
theorem dX5_init_50 : decode cX5_init 50 = .ok (.bipush 8, 2) := by decide +kernel
theorem dX5_init_52 : decode cX5_init 52 = .ok (.newarray .int, 2) := by decide +kernel
theorem dX5_init_54 : decode cX5_init 54 = .ok (.putfield 30, 3) := by decide +kernel
theorem dX5_init_57 : decode cX5_init 57 = .ok (.aload_n 0, 1) := by decide +kernel
theorem dX5_init_58 : decode cX5_init 58 = .ok (.bipush 60, 2) := by decide +kernel
theorem dX5_init_60 : decode cX5_init 60 = .ok (.newarray .int, 2) := by decide +kernel
theorem dX5_init_62 : decode cX5_init 62 = .ok (.putfield 33, 3) := by decide +kernel
theorem dX5_init_65 : decode cX5_init 65 = .ok (.aload_n 0, 1) := by decide +kernel
theorem dX5_init_66 : decode cX5_init 66 = .ok (.bipush 60, 2) := by decide +kernel
theorem dX5_init_68 : decode cX5_init 68 = .ok (.newarray .int, 2) := by decide +kernel
theorem dX5_init_70 : decode cX5_init 70 = .ok (.putfield 36, 3) := by decide +kernel
theorem dX5_init_73 : decode cX5_init 73 = .ok (.aload_n 0, 1) := by decide +kernel
theorem dX5_init_74 : decode cX5_init 74 = .ok (.bipush 60, 2) := by decide +kernel
theorem dX5_init_76 : decode cX5_init 76 = .ok (.newarray .int, 2) := by decide +kernel
theorem dX5_init_78 : decode cX5_init 78 = .ok (.putfield 39, 3) := by decide +kernel
theorem dX5_init_81 : decode cX5_init 81 = .ok (.aload_n 0, 1) := by decide +kernel
theorem dX5_init_82 : decode cX5_init 82 = .ok (.bipush 60, 2) := by decide +kernel
theorem dX5_init_84 : decode cX5_init 84 = .ok (.newarray .boolean, 2) := by decide +kernel
theorem dX5_init_86 : decode cX5_init 86 = .ok (.putfield 42, 3) := by decide +kernel
theorem dX5_init_89 : decode cX5_init 89 = .ok (.aload_n 0, 1) := by decide +kernel
theorem dX5_init_90 : decode cX5_init 90 = .ok (.bipush 60, 2) := by decide +kernel
theorem dX5_init_92 : decode cX5_init 92 = .ok (.newarray .int, 2) := by decide +kernel
theorem dX5_init_94 : decode cX5_init 94 = .ok (.putfield 45, 3) := by decide +kernel
theorem dX5_init_97 : decode cX5_init 97 = .ok (.aload_n 0, 1) := by decide +kernel
theorem dX5_init_98 : decode cX5_init 98 = .ok (.sipush 480, 3) := by decide +kernel
theorem dX5_init_101 : decode cX5_init 101 = .ok (.newarray .int, 2) := by decide +kernel
theorem dX5_init_103 : decode cX5_init 103 = .ok (.putfield 48, 3) := by decide +kernel
theorem dX5_init_106 : decode cX5_init 106 = .ok (.aload_n 0, 1) := by decide +kernel
theorem dX5_init_107 : decode cX5_init 107 = .ok (.sipush 480, 3) := by decide +kernel
theorem dX5_init_110 : decode cX5_init 110 = .ok (.newarray .int, 2) := by decide +kernel
theorem dX5_init_112 : decode cX5_init 112 = .ok (.putfield 51, 3) := by decide +kernel
theorem dX5_init_115 : decode cX5_init 115 = .ok (.aload_n 0, 1) := by decide +kernel
theorem dX5_init_116 : decode cX5_init 116 = .ok (.sipush 480, 3) := by decide +kernel
theorem dX5_init_119 : decode cX5_init 119 = .ok (.newarray .int, 2) := by decide +kernel
theorem dX5_init_121 : decode cX5_init 121 = .ok (.putfield 54, 3) := by decide +kernel
theorem dX5_init_124 : decode cX5_init 124 = .ok (.aload_n 0, 1) := by decide +kernel
theorem dX5_init_125 : decode cX5_init 125 = .ok (.sipush 1920, 3) := by decide +kernel
theorem dX5_init_128 : decode cX5_init 128 = .ok (.newarray .int, 2) := by decide +kernel
theorem dX5_init_130 : decode cX5_init 130 = .ok (.putfield 57, 3) := by decide +kernel
theorem dX5_init_133 : decode cX5_init 133 = .ok (.aload_n 0, 1) := by decide +kernel
theorem dX5_init_134 : decode cX5_init 134 = .ok (.sipush 480, 3) := by decide +kernel
theorem dX5_init_137 : decode cX5_init 137 = .ok (.newarray .int, 2) := by decide +kernel
theorem dX5_init_139 : decode cX5_init 139 = .ok (.putfield 60, 3) := by decide +kernel
theorem dX5_init_142 : decode cX5_init 142 = .ok (.aload_n 0, 1) := by decide +kernel
theorem dX5_init_143 : decode cX5_init 143 = .ok (.bipush 20, 2) := by decide +kernel
theorem dX5_init_145 : decode cX5_init 145 = .ok (.newarray .int, 2) := by decide +kernel
theorem dX5_init_147 : decode cX5_init 147 = .ok (.putfield 63, 3) := by decide +kernel
theorem dX5_init_150 : decode cX5_init 150 = .ok (.aload_n 0, 1) := by decide +kernel
theorem dX5_init_151 : decode cX5_init 151 = .ok (.bipush 20, 2) := by decide +kernel
theorem dX5_init_153 : decode cX5_init 153 = .ok (.newarray .int, 2) := by decide +kernel
theorem dX5_init_155 : decode cX5_init 155 = .ok (.putfield 66, 3) := by decide +kernel
theorem dX5_init_158 : decode cX5_init 158 = .ok (.aload_n 0, 1) := by decide +kernel
theorem dX5_init_159 : decode cX5_init 159 = .ok (.bipush 20, 2) := by decide +kernel
theorem dX5_init_161 : decode cX5_init 161 = .ok (.newarray .int, 2) := by decide +kernel
theorem dX5_init_163 : decode cX5_init 163 = .ok (.putfield 69, 3) := by decide +kernel
theorem dX5_init_166 : decode cX5_init 166 = .ok (.aload_n 0, 1) := by decide +kernel
theorem dX5_init_167 : decode cX5_init 167 = .ok (.bipush 120, 2) := by decide +kernel
theorem dX5_init_169 : decode cX5_init 169 = .ok (.newarray .int, 2) := by decide +kernel
theorem dX5_init_171 : decode cX5_init 171 = .ok (.putfield 72, 3) := by decide +kernel
theorem dX5_init_174 : decode cX5_init 174 = .ok (.return_, 1) := by decide +kernel
theorem dX5_thrown_0 : decode cX5_thrown 0 = .ok (.aload_n 0, 1) := by decide +kernel
theorem dX5_thrown_1 : decode cX5_thrown 1 = .ok (.getfield 75, 3) := by decide +kernel
theorem dX5_thrown_4 : decode cX5_thrown 4 = .ok (.ireturn, 1) := by decide +kernel
theorem dX5_holds_0 : decode cX5_holds 0 = .ok (.aload_n 0, 1) := by decide +kernel
theorem dX5_holds_1 : decode cX5_holds 1 = .ok (.iload_n 1, 1) := by decide +kernel
theorem dX5_holds_2 : decode cX5_holds 2 = .ok (.putfield 75, 3) := by decide +kernel
theorem dX5_holds_5 : decode cX5_holds 5 = .ok (.iload_n 1, 1) := by decide +kernel
theorem dX5_holds_6 : decode cX5_holds 6 = .ok (.ifCond .ne 7, 3) := by decide +kernel
theorem dX5_holds_9 : decode cX5_holds 9 = .ok (.iconst 1, 1) := by decide +kernel
theorem dX5_holds_10 : decode cX5_holds 10 = .ok (.goto 4, 3) := by decide +kernel
theorem dX5_holds_13 : decode cX5_holds 13 = .ok (.iconst 0, 1) := by decide +kernel
theorem dX5_holds_14 : decode cX5_holds 14 = .ok (.ireturn, 1) := by decide +kernel
theorem dX5_isIn_0 : decode cX5_isIn 0 = .ok (.iload_n 0, 1) := by decide +kernel
theorem dX5_isIn_1 : decode cX5_isIn 1 = .ok (.iload_n 1, 1) := by decide +kernel
theorem dX5_isIn_2 : decode cX5_isIn 2 = .ok (.if_icmp .lt 12, 3) := by decide +kernel
theorem dX5_isIn_5 : decode cX5_isIn 5 = .ok (.iload_n 0, 1) := by decide +kernel
theorem dX5_isIn_6 : decode cX5_isIn 6 = .ok (.iload_n 2, 1) := by decide +kernel
theorem dX5_isIn_7 : decode cX5_isIn 7 = .ok (.if_icmp .gt 7, 3) := by decide +kernel
theorem dX5_isIn_10 : decode cX5_isIn 10 = .ok (.iconst 1, 1) := by decide +kernel
theorem dX5_isIn_11 : decode cX5_isIn 11 = .ok (.goto 4, 3) := by decide +kernel
theorem dX5_isIn_14 : decode cX5_isIn 14 = .ok (.iconst 0, 1) := by decide +kernel
theorem dX5_isIn_15 : decode cX5_isIn 15 = .ok (.ireturn, 1) := by decide +kernel
theorem dX5_isNode_0 : decode cX5_isNode 0 = .ok (.iload_n 1, 1) := by decide +kernel
theorem dX5_isNode_1 : decode cX5_isNode 1 = .ok (.iconst 0, 1) := by decide +kernel
theorem dX5_isNode_2 : decode cX5_isNode 2 = .ok (.aload_n 0, 1) := by decide +kernel
theorem dX5_isNode_3 : decode cX5_isNode 3 = .ok (.getfield 78, 3) := by decide +kernel
theorem dX5_isNode_6 : decode cX5_isNode 6 = .ok (.iconst 1, 1) := by decide +kernel
theorem dX5_isNode_7 : decode cX5_isNode 7 = .ok (.isub, 1) := by decide +kernel
theorem dX5_isNode_8 : decode cX5_isNode 8 = .ok (.invokestatic 81, 3) := by decide +kernel
theorem dX5_isNode_11 : decode cX5_isNode 11 = .ok (.ireturn, 1) := by decide +kernel
theorem dX5_isPiece_0 : decode cX5_isPiece 0 = .ok (.iload_n 1, 1) := by decide +kernel
theorem dX5_isPiece_1 : decode cX5_isPiece 1 = .ok (.iconst 0, 1) := by decide +kernel
theorem dX5_isPiece_2 : decode cX5_isPiece 2 = .ok (.aload_n 0, 1) := by decide +kernel
theorem dX5_isPiece_3 : decode cX5_isPiece 3 = .ok (.getfield 85, 3) := by decide +kernel
theorem dX5_isPiece_6 : decode cX5_isPiece 6 = .ok (.iconst 1, 1) := by decide +kernel
theorem dX5_isPiece_7 : decode cX5_isPiece 7 = .ok (.isub, 1) := by decide +kernel
theorem dX5_isPiece_8 : decode cX5_isPiece 8 = .ok (.invokestatic 81, 3) := by decide +kernel
theorem dX5_isPiece_11 : decode cX5_isPiece 11 = .ok (.ireturn, 1) := by decide +kernel
theorem dX5_isFile_0 : decode cX5_isFile 0 = .ok (.iload_n 1, 1) := by decide +kernel
theorem dX5_isFile_1 : decode cX5_isFile 1 = .ok (.iconst 0, 1) := by decide +kernel
theorem dX5_isFile_2 : decode cX5_isFile 2 = .ok (.aload_n 0, 1) := by decide +kernel
theorem dX5_isFile_3 : decode cX5_isFile 3 = .ok (.getfield 88, 3) := by decide +kernel
theorem dX5_isFile_6 : decode cX5_isFile 6 = .ok (.iconst 1, 1) := by decide +kernel
theorem dX5_isFile_7 : decode cX5_isFile 7 = .ok (.isub, 1) := by decide +kernel
theorem dX5_isFile_8 : decode cX5_isFile 8 = .ok (.invokestatic 81, 3) := by decide +kernel
theorem dX5_isFile_11 : decode cX5_isFile 11 = .ok (.ireturn, 1) := by decide +kernel
theorem dX5_at_0 : decode cX5_at 0 = .ok (.bipush 60, 2) := by decide +kernel
theorem dX5_at_2 : decode cX5_at 2 = .ok (.iload_n 0, 1) := by decide +kernel
theorem dX5_at_3 : decode cX5_at 3 = .ok (.imul, 1) := by decide +kernel
theorem dX5_at_4 : decode cX5_at 4 = .ok (.iload_n 1, 1) := by decide +kernel
theorem dX5_at_5 : decode cX5_at 5 = .ok (.iadd, 1) := by decide +kernel
theorem dX5_at_6 : decode cX5_at 6 = .ok (.ireturn, 1) := by decide +kernel
theorem dX5_node_0 : decode cX5_node 0 = .ok (.aload_n 0, 1) := by decide +kernel
theorem dX5_node_1 : decode cX5_node 1 = .ok (.iload_n 1, 1) := by decide +kernel
theorem dX5_node_2 : decode cX5_node 2 = .ok (.iconst 0, 1) := by decide +kernel
theorem dX5_node_3 : decode cX5_node 3 = .ok (.iconst 3, 1) := by decide +kernel
theorem dX5_node_4 : decode cX5_node 4 = .ok (.invokestatic 81, 3) := by decide +kernel
theorem dX5_node_7 : decode cX5_node 7 = .ok (.ifCond .ne 7, 3) := by decide +kernel
theorem dX5_node_10 : decode cX5_node 10 = .ok (.iconst 1, 1) := by decide +kernel
theorem dX5_node_11 : decode cX5_node 11 = .ok (.goto 31, 3) := by decide +kernel
theorem dX5_node_14 : decode cX5_node 14 = .ok (.iload_n 2, 1) := by decide +kernel
theorem dX5_node_15 : decode cX5_node 15 = .ok (.iconst 1, 1) := by decide +kernel
theorem dX5_node_16 : decode cX5_node 16 = .ok (.bipush 12, 2) := by decide +kernel
theorem dX5_node_18 : decode cX5_node 18 = .ok (.invokestatic 81, 3) := by decide +kernel
theorem dX5_node_21 : decode cX5_node 21 = .ok (.ifCond .ne 7, 3) := by decide +kernel
theorem dX5_node_24 : decode cX5_node 24 = .ok (.iconst 2, 1) := by decide +kernel
theorem dX5_node_25 : decode cX5_node 25 = .ok (.goto 17, 3) := by decide +kernel
theorem dX5_node_28 : decode cX5_node 28 = .ok (.aload_n 0, 1) := by decide +kernel
theorem dX5_node_29 : decode cX5_node 29 = .ok (.getfield 78, 3) := by decide +kernel
theorem dX5_node_32 : decode cX5_node 32 = .ok (.bipush 8, 2) := by decide +kernel
theorem dX5_node_34 : decode cX5_node 34 = .ok (.if_icmp .ne 7, 3) := by decide +kernel
theorem dX5_node_37 : decode cX5_node 37 = .ok (.iconst 3, 1) := by decide +kernel
theorem dX5_node_38 : decode cX5_node 38 = .ok (.goto 4, 3) := by decide +kernel
theorem dX5_node_41 : decode cX5_node 41 = .ok (.iconst 0, 1) := by decide +kernel
theorem dX5_node_42 : decode cX5_node 42 = .ok (.invokevirtual 91, 3) := by decide +kernel
theorem dX5_node_45 : decode cX5_node 45 = .ok (.ifCond .ne 5, 3) := by decide +kernel
theorem dX5_node_48 : decode cX5_node 48 = .ok (.iconst 0, 1) := by decide +kernel
theorem dX5_node_49 : decode cX5_node 49 = .ok (.ireturn, 1) := by decide +kernel
theorem dX5_node_50 : decode cX5_node 50 = .ok (.aload_n 0, 1) := by decide +kernel
theorem dX5_node_51 : decode cX5_node 51 = .ok (.getfield 13, 3) := by decide +kernel
theorem dX5_node_54 : decode cX5_node 54 = .ok (.aload_n 0, 1) := by decide +kernel
theorem dX5_node_55 : decode cX5_node 55 = .ok (.getfield 78, 3) := by decide +kernel
theorem dX5_node_58 : decode cX5_node 58 = .ok (.iload_n 1, 1) := by decide +kernel
theorem dX5_node_59 : decode cX5_node 59 = .ok (.iastore, 1) := by decide +kernel
theorem dX5_node_60 : decode cX5_node 60 = .ok (.aload_n 0, 1) := by decide +kernel
theorem dX5_node_61 : decode cX5_node 61 = .ok (.getfield 17, 3) := by decide +kernel
theorem dX5_node_64 : decode cX5_node 64 = .ok (.aload_n 0, 1) := by decide +kernel
theorem dX5_node_65 : decode cX5_node 65 = .ok (.getfield 78, 3) := by decide +kernel
theorem dX5_node_68 : decode cX5_node 68 = .ok (.iload_n 2, 1) := by decide +kernel
theorem dX5_node_69 : decode cX5_node 69 = .ok (.iastore, 1) := by decide +kernel
theorem dX5_node_70 : decode cX5_node 70 = .ok (.aload_n 0, 1) := by decide +kernel
theorem dX5_node_71 : decode cX5_node 71 = .ok (.getfield 20, 3) := by decide +kernel
theorem dX5_node_74 : decode cX5_node 74 = .ok (.aload_n 0, 1) := by decide +kernel
theorem dX5_node_75 : decode cX5_node 75 = .ok (.getfield 78, 3) := by decide +kernel
theorem dX5_node_78 : decode cX5_node 78 = .ok (.iconst 1, 1) := by decide +kernel
theorem dX5_node_79 : decode cX5_node 79 = .ok (.bastore, 1) := by decide +kernel
theorem dX5_node_80 : decode cX5_node 80 = .ok (.aload_n 0, 1) := by decide +kernel
theorem dX5_node_81 : decode cX5_node 81 = .ok (.getfield 27, 3) := by decide +kernel
theorem dX5_node_84 : decode cX5_node 84 = .ok (.aload_n 0, 1) := by decide +kernel
theorem dX5_node_85 : decode cX5_node 85 = .ok (.getfield 78, 3) := by decide +kernel
theorem dX5_node_88 : decode cX5_node 88 = .ok (.iconst 1, 1) := by decide +kernel
theorem dX5_node_89 : decode cX5_node 89 = .ok (.bastore, 1) := by decide +kernel
theorem dX5_node_90 : decode cX5_node 90 = .ok (.aload_n 0, 1) := by decide +kernel
theorem dX5_node_91 : decode cX5_node 91 = .ok (.getfield 30, 3) := by decide +kernel
theorem dX5_node_94 : decode cX5_node 94 = .ok (.aload_n 0, 1) := by decide +kernel
theorem dX5_node_95 : decode cX5_node 95 = .ok (.getfield 78, 3) := by decide +kernel
theorem dX5_node_98 : decode cX5_node 98 = .ok (.iconst (-1), 1) := by decide +kernel
theorem dX5_node_99 : decode cX5_node 99 = .ok (.iastore, 1) := by decide +kernel
theorem dX5_node_100 : decode cX5_node 100 = .ok (.aload_n 0, 1) := by decide +kernel
theorem dX5_node_101 : decode cX5_node 101 = .ok (.dup, 1) := by decide +kernel
theorem dX5_node_102 : decode cX5_node 102 = .ok (.getfield 78, 3) := by decide +kernel
theorem dX5_node_105 : decode cX5_node 105 = .ok (.iconst 1, 1) := by decide +kernel
theorem dX5_node_106 : decode cX5_node 106 = .ok (.iadd, 1) := by decide +kernel
theorem dX5_node_107 : decode cX5_node 107 = .ok (.putfield 78, 3) := by decide +kernel
theorem dX5_node_110 : decode cX5_node 110 = .ok (.aload_n 0, 1) := by decide +kernel
theorem dX5_node_111 : decode cX5_node 111 = .ok (.getfield 78, 3) := by decide +kernel
theorem dX5_node_114 : decode cX5_node 114 = .ok (.iconst 1, 1) := by decide +kernel
theorem dX5_node_115 : decode cX5_node 115 = .ok (.isub, 1) := by decide +kernel
theorem dX5_node_116 : decode cX5_node 116 = .ok (.ireturn, 1) := by decide +kernel
theorem dX5_up_0 : decode cX5_up 0 = .ok (.aload_n 0, 1) := by decide +kernel
theorem dX5_up_1 : decode cX5_up 1 = .ok (.aload_n 0, 1) := by decide +kernel
theorem dX5_up_2 : decode cX5_up 2 = .ok (.iload_n 1, 1) := by decide +kernel
theorem dX5_up_3 : decode cX5_up 3 = .ok (.invokevirtual 95, 3) := by decide +kernel
theorem dX5_up_6 : decode cX5_up 6 = .ok (.ifCond .eq 7, 3) := by decide +kernel
theorem dX5_up_9 : decode cX5_up 9 = .ok (.iconst 0, 1) := by decide +kernel
theorem dX5_up_10 : decode cX5_up 10 = .ok (.goto 4, 3) := by decide +kernel
theorem dX5_up_13 : decode cX5_up 13 = .ok (.iconst 1, 1) := by decide +kernel
theorem dX5_up_14 : decode cX5_up 14 = .ok (.invokevirtual 91, 3) := by decide +kernel
theorem dX5_up_17 : decode cX5_up 17 = .ok (.ifCond .ne 5, 3) := by decide +kernel
theorem dX5_up_20 : decode cX5_up 20 = .ok (.iconst 0, 1) := by decide +kernel
theorem dX5_up_21 : decode cX5_up 21 = .ok (.ireturn, 1) := by decide +kernel
theorem dX5_up_22 : decode cX5_up 22 = .ok (.aload_n 0, 1) := by decide +kernel
theorem dX5_up_23 : decode cX5_up 23 = .ok (.getfield 20, 3) := by decide +kernel
theorem dX5_up_26 : decode cX5_up 26 = .ok (.iload_n 1, 1) := by decide +kernel
theorem dX5_up_27 : decode cX5_up 27 = .ok (.baload, 1) := by decide +kernel
theorem dX5_up_28 : decode cX5_up 28 = .ok (.istore_n 3, 1) := by decide +kernel
theorem dX5_up_29 : decode cX5_up 29 = .ok (.aload_n 0, 1) := by decide +kernel
theorem dX5_up_30 : decode cX5_up 30 = .ok (.getfield 24, 3) := by decide +kernel
theorem dX5_up_33 : decode cX5_up 33 = .ok (.iload_n 1, 1) := by decide +kernel
theorem dX5_up_34 : decode cX5_up 34 = .ok (.iload_n 3, 1) := by decide +kernel
theorem dX5_up_35 : decode cX5_up 35 = .ok (.ifCond .eq 14, 3) := by decide +kernel
theorem dX5_up_38 : decode cX5_up 38 = .ok (.iload_n 2, 1) := by decide +kernel
theorem dX5_up_39 : decode cX5_up 39 = .ok (.ifCond .ne 10, 3) := by decide +kernel
theorem dX5_up_42 : decode cX5_up 42 = .ok (.aload_n 0, 1) := by decide +kernel
theorem dX5_up_43 : decode cX5_up 43 = .ok (.getfield 98, 3) := by decide +kernel
theorem dX5_up_46 : decode cX5_up 46 = .ok (.goto 9, 3) := by decide +kernel
theorem dX5_up_49 : decode cX5_up 49 = .ok (.aload_n 0, 1) := by decide +kernel
theorem dX5_up_50 : decode cX5_up 50 = .ok (.getfield 24, 3) := by decide +kernel
theorem dX5_up_53 : decode cX5_up 53 = .ok (.iload_n 1, 1) := by decide +kernel
theorem dX5_up_54 : decode cX5_up 54 = .ok (.iaload, 1) := by decide +kernel
theorem dX5_up_55 : decode cX5_up 55 = .ok (.iastore, 1) := by decide +kernel
theorem dX5_up_56 : decode cX5_up 56 = .ok (.aload_n 0, 1) := by decide +kernel
theorem dX5_up_57 : decode cX5_up 57 = .ok (.getfield 20, 3) := by decide +kernel
theorem dX5_up_60 : decode cX5_up 60 = .ok (.iload_n 1, 1) := by decide +kernel
theorem dX5_up_61 : decode cX5_up 61 = .ok (.iload_n 2, 1) := by decide +kernel
theorem dX5_up_62 : decode cX5_up 62 = .ok (.bastore, 1) := by decide +kernel
theorem dX5_up_63 : decode cX5_up 63 = .ok (.iload_n 3, 1) := by decide +kernel
theorem dX5_up_64 : decode cX5_up 64 = .ok (.ireturn, 1) := by decide +kernel
theorem dX5_spoil_0 : decode cX5_spoil 0 = .ok (.aload_n 0, 1) := by decide +kernel
theorem dX5_spoil_1 : decode cX5_spoil 1 = .ok (.iload_n 1, 1) := by decide +kernel
theorem dX5_spoil_2 : decode cX5_spoil 2 = .ok (.invokevirtual 95, 3) := by decide +kernel
theorem dX5_spoil_5 : decode cX5_spoil 5 = .ok (.ifCond .eq 24, 3) := by decide +kernel
theorem dX5_spoil_8 : decode cX5_spoil 8 = .ok (.aload_n 0, 1) := by decide +kernel
theorem dX5_spoil_9 : decode cX5_spoil 9 = .ok (.iload_n 2, 1) := by decide +kernel
theorem dX5_spoil_10 : decode cX5_spoil 10 = .ok (.invokevirtual 101, 3) := by decide +kernel
theorem dX5_spoil_13 : decode cX5_spoil 13 = .ok (.ifCond .eq 16, 3) := by decide +kernel
theorem dX5_spoil_16 : decode cX5_spoil 16 = .ok (.iload_n 3, 1) := by decide +kernel
theorem dX5_spoil_17 : decode cX5_spoil 17 = .ok (.iconst 0, 1) := by decide +kernel
theorem dX5_spoil_18 : decode cX5_spoil 18 = .ok (.iconst 3, 1) := by decide +kernel
theorem dX5_spoil_19 : decode cX5_spoil 19 = .ok (.invokestatic 81, 3) := by decide +kernel
theorem dX5_spoil_22 : decode cX5_spoil 22 = .ok (.ifCond .eq 7, 3) := by decide +kernel
theorem dX5_spoil_25 : decode cX5_spoil 25 = .ok (.iconst 1, 1) := by decide +kernel
theorem dX5_spoil_26 : decode cX5_spoil 26 = .ok (.goto 4, 3) := by decide +kernel
theorem dX5_spoil_29 : decode cX5_spoil 29 = .ok (.iconst 0, 1) := by decide +kernel
theorem dX5_spoil_30 : decode cX5_spoil 30 = .ok (.istore 4, 2) := by decide +kernel
theorem dX5_spoil_32 : decode cX5_spoil 32 = .ok (.aload_n 0, 1) := by decide +kernel
theorem dX5_spoil_33 : decode cX5_spoil 33 = .ok (.iload 4, 2) := by decide +kernel
theorem dX5_spoil_35 : decode cX5_spoil 35 = .ok (.ifCond .ne 7, 3) := by decide +kernel
theorem dX5_spoil_38 : decode cX5_spoil 38 = .ok (.iconst 1, 1) := by decide +kernel
theorem dX5_spoil_39 : decode cX5_spoil 39 = .ok (.goto 35, 3) := by decide +kernel
theorem dX5_spoil_42 : decode cX5_spoil 42 = .ok (.aload_n 0, 1) := by decide +kernel
theorem dX5_spoil_43 : decode cX5_spoil 43 = .ok (.getfield 51, 3) := by decide +kernel
theorem dX5_spoil_46 : decode cX5_spoil 46 = .ok (.iload_n 1, 1) := by decide +kernel
theorem dX5_spoil_47 : decode cX5_spoil 47 = .ok (.iload_n 2, 1) := by decide +kernel
theorem dX5_spoil_48 : decode cX5_spoil 48 = .ok (.invokestatic 104, 3) := by decide +kernel
theorem dX5_spoil_51 : decode cX5_spoil 51 = .ok (.iaload, 1) := by decide +kernel
theorem dX5_spoil_52 : decode cX5_spoil 52 = .ok (.ifCond .eq 17, 3) := by decide +kernel
theorem dX5_spoil_55 : decode cX5_spoil 55 = .ok (.aload_n 0, 1) := by decide +kernel
theorem dX5_spoil_56 : decode cX5_spoil 56 = .ok (.getfield 54, 3) := by decide +kernel
theorem dX5_spoil_59 : decode cX5_spoil 59 = .ok (.iload_n 1, 1) := by decide +kernel
theorem dX5_spoil_60 : decode cX5_spoil 60 = .ok (.iload_n 2, 1) := by decide +kernel
theorem dX5_spoil_61 : decode cX5_spoil 61 = .ok (.invokestatic 104, 3) := by decide +kernel
theorem dX5_spoil_64 : decode cX5_spoil 64 = .ok (.iaload, 1) := by decide +kernel
theorem dX5_spoil_65 : decode cX5_spoil 65 = .ok (.iload_n 3, 1) := by decide +kernel
theorem dX5_spoil_66 : decode cX5_spoil 66 = .ok (.if_icmp .gt 7, 3) := by decide +kernel
theorem dX5_spoil_69 : decode cX5_spoil 69 = .ok (.iconst 2, 1) := by decide +kernel
theorem dX5_spoil_70 : decode cX5_spoil 70 = .ok (.goto 4, 3) := by decide +kernel
theorem dX5_spoil_73 : decode cX5_spoil 73 = .ok (.iconst 0, 1) := by decide +kernel
theorem dX5_spoil_74 : decode cX5_spoil 74 = .ok (.invokevirtual 91, 3) := by decide +kernel
theorem dX5_spoil_77 : decode cX5_spoil 77 = .ok (.ifCond .ne 5, 3) := by decide +kernel
theorem dX5_spoil_80 : decode cX5_spoil 80 = .ok (.iconst 0, 1) := by decide +kernel
theorem dX5_spoil_81 : decode cX5_spoil 81 = .ok (.ireturn, 1) := by decide +kernel
theorem dX5_spoil_82 : decode cX5_spoil 82 = .ok (.aload_n 0, 1) := by decide +kernel
theorem dX5_spoil_83 : decode cX5_spoil 83 = .ok (.getfield 60, 3) := by decide +kernel
theorem dX5_spoil_86 : decode cX5_spoil 86 = .ok (.iload_n 1, 1) := by decide +kernel
theorem dX5_spoil_87 : decode cX5_spoil 87 = .ok (.iload_n 2, 1) := by decide +kernel
theorem dX5_spoil_88 : decode cX5_spoil 88 = .ok (.invokestatic 104, 3) := by decide +kernel
theorem dX5_spoil_91 : decode cX5_spoil 91 = .ok (.iaload, 1) := by decide +kernel
theorem dX5_spoil_92 : decode cX5_spoil 92 = .ok (.iload_n 3, 1) := by decide +kernel
theorem dX5_spoil_93 : decode cX5_spoil 93 = .ok (.ishr, 1) := by decide +kernel
theorem dX5_spoil_94 : decode cX5_spoil 94 = .ok (.iconst 1, 1) := by decide +kernel
theorem dX5_spoil_95 : decode cX5_spoil 95 = .ok (.iand, 1) := by decide +kernel
theorem dX5_spoil_96 : decode cX5_spoil 96 = .ok (.iconst 1, 1) := by decide +kernel
theorem dX5_spoil_97 : decode cX5_spoil 97 = .ok (.if_icmp .ne 7, 3) := by decide +kernel
theorem dX5_spoil_100 : decode cX5_spoil 100 = .ok (.iconst 1, 1) := by decide +kernel
theorem dX5_spoil_101 : decode cX5_spoil 101 = .ok (.goto 4, 3) := by decide +kernel
theorem dX5_spoil_104 : decode cX5_spoil 104 = .ok (.iconst 0, 1) := by decide +kernel
theorem dX5_spoil_105 : decode cX5_spoil 105 = .ok (.istore 5, 2) := by decide +kernel
theorem dX5_spoil_107 : decode cX5_spoil 107 = .ok (.aload_n 0, 1) := by decide +kernel
theorem dX5_spoil_108 : decode cX5_spoil 108 = .ok (.getfield 60, 3) := by decide +kernel
theorem dX5_spoil_111 : decode cX5_spoil 111 = .ok (.iload_n 1, 1) := by decide +kernel
theorem dX5_spoil_112 : decode cX5_spoil 112 = .ok (.iload_n 2, 1) := by decide +kernel
theorem dX5_spoil_113 : decode cX5_spoil 113 = .ok (.invokestatic 104, 3) := by decide +kernel
theorem dX5_spoil_116 : decode cX5_spoil 116 = .ok (.dup2, 1) := by decide +kernel
theorem dX5_spoil_117 : decode cX5_spoil 117 = .ok (.iaload, 1) := by decide +kernel
theorem dX5_spoil_118 : decode cX5_spoil 118 = .ok (.iconst 1, 1) := by decide +kernel
theorem dX5_spoil_119 : decode cX5_spoil 119 = .ok (.iload_n 3, 1) := by decide +kernel
theorem dX5_spoil_120 : decode cX5_spoil 120 = .ok (.ishl, 1) := by decide +kernel
theorem dX5_spoil_121 : decode cX5_spoil 121 = .ok (.ior, 1) := by decide +kernel
theorem dX5_spoil_122 : decode cX5_spoil 122 = .ok (.iastore, 1) := by decide +kernel
theorem dX5_spoil_123 : decode cX5_spoil 123 = .ok (.iload 5, 2) := by decide +kernel
theorem dX5_spoil_125 : decode cX5_spoil 125 = .ok (.ireturn, 1) := by decide +kernel
theorem dX5_limit_0 : decode cX5_limit 0 = .ok (.aload_n 0, 1) := by decide +kernel
theorem dX5_limit_1 : decode cX5_limit 1 = .ok (.iload_n 1, 1) := by decide +kernel
theorem dX5_limit_2 : decode cX5_limit 2 = .ok (.iconst 0, 1) := by decide +kernel
theorem dX5_limit_3 : decode cX5_limit 3 = .ok (.iconst 3, 1) := by decide +kernel
theorem dX5_limit_4 : decode cX5_limit 4 = .ok (.invokestatic 81, 3) := by decide +kernel
theorem dX5_limit_7 : decode cX5_limit 7 = .ok (.ifCond .eq 7, 3) := by decide +kernel
theorem dX5_limit_10 : decode cX5_limit 10 = .ok (.iconst 0, 1) := by decide +kernel
theorem dX5_limit_11 : decode cX5_limit 11 = .ok (.goto 4, 3) := by decide +kernel
theorem dX5_limit_14 : decode cX5_limit 14 = .ok (.iconst 1, 1) := by decide +kernel
theorem dX5_limit_15 : decode cX5_limit 15 = .ok (.invokevirtual 91, 3) := by decide +kernel
theorem dX5_limit_18 : decode cX5_limit 18 = .ok (.ifCond .ne 5, 3) := by decide +kernel
theorem dX5_limit_21 : decode cX5_limit 21 = .ok (.iconst 0, 1) := by decide +kernel
theorem dX5_limit_22 : decode cX5_limit 22 = .ok (.ireturn, 1) := by decide +kernel
theorem dX5_limit_23 : decode cX5_limit 23 = .ok (.aload_n 0, 1) := by decide +kernel
theorem dX5_limit_24 : decode cX5_limit 24 = .ok (.getfield 7, 3) := by decide +kernel
theorem dX5_limit_27 : decode cX5_limit 27 = .ok (.istore_n 2, 1) := by decide +kernel
theorem dX5_limit_28 : decode cX5_limit 28 = .ok (.aload_n 0, 1) := by decide +kernel
theorem dX5_limit_29 : decode cX5_limit 29 = .ok (.iload_n 1, 1) := by decide +kernel
theorem dX5_limit_30 : decode cX5_limit 30 = .ok (.putfield 7, 3) := by decide +kernel
theorem dX5_limit_33 : decode cX5_limit 33 = .ok (.iload_n 2, 1) := by decide +kernel
theorem dX5_limit_34 : decode cX5_limit 34 = .ok (.ireturn, 1) := by decide +kernel
theorem dX5_balance_0 : decode cX5_balance 0 = .ok (.aload_n 0, 1) := by decide +kernel
theorem dX5_balance_1 : decode cX5_balance 1 = .ok (.iconst 0, 1) := by decide +kernel
theorem dX5_balance_2 : decode cX5_balance 2 = .ok (.putfield 75, 3) := by decide +kernel
theorem dX5_balance_5 : decode cX5_balance 5 = .ok (.aload_n 0, 1) := by decide +kernel
theorem dX5_balance_6 : decode cX5_balance 6 = .ok (.getfield 108, 3) := by decide +kernel
theorem dX5_balance_9 : decode cX5_balance 9 = .ok (.istore_n 2, 1) := by decide +kernel
theorem dX5_balance_10 : decode cX5_balance 10 = .ok (.aload_n 0, 1) := by decide +kernel
theorem dX5_balance_11 : decode cX5_balance 11 = .ok (.iload_n 1, 1) := by decide +kernel
theorem dX5_balance_12 : decode cX5_balance 12 = .ok (.putfield 108, 3) := by decide +kernel
theorem dX5_balance_15 : decode cX5_balance 15 = .ok (.iload_n 2, 1) := by decide +kernel
theorem dX5_balance_16 : decode cX5_balance 16 = .ok (.ireturn, 1) := by decide +kernel
theorem dX5_loadOf_0 : decode cX5_loadOf 0 = .ok (.iconst 0, 1) := by decide +kernel
theorem dX5_loadOf_1 : decode cX5_loadOf 1 = .ok (.istore_n 2, 1) := by decide +kernel
theorem dX5_loadOf_2 : decode cX5_loadOf 2 = .ok (.iconst 0, 1) := by decide +kernel
theorem dX5_loadOf_3 : decode cX5_loadOf 3 = .ok (.istore_n 3, 1) := by decide +kernel
theorem dX5_loadOf_4 : decode cX5_loadOf 4 = .ok (.iload_n 3, 1) := by decide +kernel
theorem dX5_loadOf_5 : decode cX5_loadOf 5 = .ok (.aload_n 0, 1) := by decide +kernel
theorem dX5_loadOf_6 : decode cX5_loadOf 6 = .ok (.getfield 85, 3) := by decide +kernel
theorem dX5_loadOf_9 : decode cX5_loadOf 9 = .ok (.if_icmp .ge 30, 3) := by decide +kernel
theorem dX5_loadOf_12 : decode cX5_loadOf 12 = .ok (.iload_n 2, 1) := by decide +kernel
theorem dX5_loadOf_13 : decode cX5_loadOf 13 = .ok (.aload_n 0, 1) := by decide +kernel
theorem dX5_loadOf_14 : decode cX5_loadOf 14 = .ok (.getfield 51, 3) := by decide +kernel
theorem dX5_loadOf_17 : decode cX5_loadOf 17 = .ok (.iload_n 1, 1) := by decide +kernel
theorem dX5_loadOf_18 : decode cX5_loadOf 18 = .ok (.iload_n 3, 1) := by decide +kernel
theorem dX5_loadOf_19 : decode cX5_loadOf 19 = .ok (.invokestatic 104, 3) := by decide +kernel
theorem dX5_loadOf_22 : decode cX5_loadOf 22 = .ok (.iaload, 1) := by decide +kernel
theorem dX5_loadOf_23 : decode cX5_loadOf 23 = .ok (.ifCond .le 7, 3) := by decide +kernel
theorem dX5_loadOf_26 : decode cX5_loadOf 26 = .ok (.iconst 1, 1) := by decide +kernel
theorem dX5_loadOf_27 : decode cX5_loadOf 27 = .ok (.goto 4, 3) := by decide +kernel
theorem dX5_loadOf_30 : decode cX5_loadOf 30 = .ok (.iconst 0, 1) := by decide +kernel
theorem dX5_loadOf_31 : decode cX5_loadOf 31 = .ok (.iadd, 1) := by decide +kernel
theorem dX5_loadOf_32 : decode cX5_loadOf 32 = .ok (.istore_n 2, 1) := by decide +kernel
theorem dX5_loadOf_33 : decode cX5_loadOf 33 = .ok (.iinc 3 1, 3) := by decide +kernel
theorem dX5_loadOf_36 : decode cX5_loadOf 36 = .ok (.goto (-32), 3) := by decide +kernel
theorem dX5_loadOf_39 : decode cX5_loadOf 39 = .ok (.iload_n 2, 1) := by decide +kernel
theorem dX5_loadOf_40 : decode cX5_loadOf 40 = .ok (.ireturn, 1) := by decide +kernel
theorem dX5_placeOf_0 : decode cX5_placeOf 0 = .ok (.iconst 0, 1) := by decide +kernel
theorem dX5_placeOf_1 : decode cX5_placeOf 1 = .ok (.istore_n 3, 1) := by decide +kernel
theorem dX5_placeOf_2 : decode cX5_placeOf 2 = .ok (.iload_n 3, 1) := by decide +kernel
theorem dX5_placeOf_3 : decode cX5_placeOf 3 = .ok (.aload_n 0, 1) := by decide +kernel
theorem dX5_placeOf_4 : decode cX5_placeOf 4 = .ok (.getfield 45, 3) := by decide +kernel
theorem dX5_placeOf_7 : decode cX5_placeOf 7 = .ok (.iload_n 1, 1) := by decide +kernel
theorem dX5_placeOf_8 : decode cX5_placeOf 8 = .ok (.iaload, 1) := by decide +kernel
theorem dX5_placeOf_9 : decode cX5_placeOf 9 = .ok (.if_icmp .ge 26, 3) := by decide +kernel
theorem dX5_placeOf_12 : decode cX5_placeOf 12 = .ok (.aload_n 0, 1) := by decide +kernel
theorem dX5_placeOf_13 : decode cX5_placeOf 13 = .ok (.getfield 48, 3) := by decide +kernel
theorem dX5_placeOf_16 : decode cX5_placeOf 16 = .ok (.bipush 8, 2) := by decide +kernel
theorem dX5_placeOf_18 : decode cX5_placeOf 18 = .ok (.iload_n 1, 1) := by decide +kernel
theorem dX5_placeOf_19 : decode cX5_placeOf 19 = .ok (.imul, 1) := by decide +kernel
theorem dX5_placeOf_20 : decode cX5_placeOf 20 = .ok (.iload_n 3, 1) := by decide +kernel
theorem dX5_placeOf_21 : decode cX5_placeOf 21 = .ok (.iadd, 1) := by decide +kernel
theorem dX5_placeOf_22 : decode cX5_placeOf 22 = .ok (.iaload, 1) := by decide +kernel
theorem dX5_placeOf_23 : decode cX5_placeOf 23 = .ok (.iload_n 2, 1) := by decide +kernel
theorem dX5_placeOf_24 : decode cX5_placeOf 24 = .ok (.if_icmp .ne 5, 3) := by decide +kernel
theorem dX5_placeOf_27 : decode cX5_placeOf 27 = .ok (.iload_n 3, 1) := by decide +kernel
theorem dX5_placeOf_28 : decode cX5_placeOf 28 = .ok (.ireturn, 1) := by decide +kernel
theorem dX5_placeOf_29 : decode cX5_placeOf 29 = .ok (.iinc 3 1, 3) := by decide +kernel
theorem dX5_placeOf_32 : decode cX5_placeOf 32 = .ok (.goto (-30), 3) := by decide +kernel
theorem dX5_placeOf_35 : decode cX5_placeOf 35 = .ok (.iconst (-1), 1) := by decide +kernel
theorem dX5_placeOf_36 : decode cX5_placeOf 36 = .ok (.ireturn, 1) := by decide +kernel
theorem dX5_knows_0 : decode cX5_knows 0 = .ok (.aload_n 0, 1) := by decide +kernel
theorem dX5_knows_1 : decode cX5_knows 1 = .ok (.getfield 48, 3) := by decide +kernel
theorem dX5_knows_4 : decode cX5_knows 4 = .ok (.bipush 8, 2) := by decide +kernel
theorem dX5_knows_6 : decode cX5_knows 6 = .ok (.iload_n 1, 1) := by decide +kernel
theorem dX5_knows_7 : decode cX5_knows 7 = .ok (.imul, 1) := by decide +kernel
theorem dX5_knows_8 : decode cX5_knows 8 = .ok (.aload_n 0, 1) := by decide +kernel
theorem dX5_knows_9 : decode cX5_knows 9 = .ok (.getfield 45, 3) := by decide +kernel
theorem dX5_knows_12 : decode cX5_knows 12 = .ok (.iload_n 1, 1) := by decide +kernel
theorem dX5_knows_13 : decode cX5_knows 13 = .ok (.iaload, 1) := by decide +kernel
theorem dX5_knows_14 : decode cX5_knows 14 = .ok (.iadd, 1) := by decide +kernel
theorem dX5_knows_15 : decode cX5_knows 15 = .ok (.iload_n 2, 1) := by decide +kernel
theorem dX5_knows_16 : decode cX5_knows 16 = .ok (.iastore, 1) := by decide +kernel
theorem dX5_knows_17 : decode cX5_knows 17 = .ok (.aload_n 0, 1) := by decide +kernel
theorem dX5_knows_18 : decode cX5_knows 18 = .ok (.getfield 45, 3) := by decide +kernel
theorem dX5_knows_21 : decode cX5_knows 21 = .ok (.iload_n 1, 1) := by decide +kernel
theorem dX5_knows_22 : decode cX5_knows 22 = .ok (.dup2, 1) := by decide +kernel
theorem dX5_knows_23 : decode cX5_knows 23 = .ok (.iaload, 1) := by decide +kernel
theorem dX5_knows_24 : decode cX5_knows 24 = .ok (.iconst 1, 1) := by decide +kernel
theorem dX5_knows_25 : decode cX5_knows 25 = .ok (.iadd, 1) := by decide +kernel
theorem dX5_knows_26 : decode cX5_knows 26 = .ok (.iastore, 1) := by decide +kernel
theorem dX5_knows_27 : decode cX5_knows 27 = .ok (.return_, 1) := by decide +kernel
theorem dX5_forgets_0 : decode cX5_forgets 0 = .ok (.aload_n 0, 1) := by decide +kernel
theorem dX5_forgets_1 : decode cX5_forgets 1 = .ok (.iload_n 1, 1) := by decide +kernel
theorem dX5_forgets_2 : decode cX5_forgets 2 = .ok (.iload_n 2, 1) := by decide +kernel
theorem dX5_forgets_3 : decode cX5_forgets 3 = .ok (.invokevirtual 112, 3) := by decide +kernel
theorem dX5_forgets_6 : decode cX5_forgets 6 = .ok (.istore_n 3, 1) := by decide +kernel
theorem dX5_forgets_7 : decode cX5_forgets 7 = .ok (.iload_n 3, 1) := by decide +kernel
theorem dX5_forgets_8 : decode cX5_forgets 8 = .ok (.iconst (-1), 1) := by decide +kernel
theorem dX5_forgets_9 : decode cX5_forgets 9 = .ok (.if_icmp .ne 4, 3) := by decide +kernel
theorem dX5_forgets_12 : decode cX5_forgets 12 = .ok (.return_, 1) := by decide +kernel
theorem dX5_forgets_13 : decode cX5_forgets 13 = .ok (.aload_n 0, 1) := by decide +kernel
theorem dX5_forgets_14 : decode cX5_forgets 14 = .ok (.getfield 45, 3) := by decide +kernel
theorem dX5_forgets_17 : decode cX5_forgets 17 = .ok (.iload_n 1, 1) := by decide +kernel
theorem dX5_forgets_18 : decode cX5_forgets 18 = .ok (.dup2, 1) := by decide +kernel
theorem dX5_forgets_19 : decode cX5_forgets 19 = .ok (.iaload, 1) := by decide +kernel
theorem dX5_forgets_20 : decode cX5_forgets 20 = .ok (.iconst 1, 1) := by decide +kernel
theorem dX5_forgets_21 : decode cX5_forgets 21 = .ok (.isub, 1) := by decide +kernel
theorem dX5_forgets_22 : decode cX5_forgets 22 = .ok (.iastore, 1) := by decide +kernel
theorem dX5_forgets_23 : decode cX5_forgets 23 = .ok (.iload_n 3, 1) := by decide +kernel
theorem dX5_forgets_24 : decode cX5_forgets 24 = .ok (.istore 4, 2) := by decide +kernel
theorem dX5_forgets_26 : decode cX5_forgets 26 = .ok (.iload 4, 2) := by decide +kernel
theorem dX5_forgets_28 : decode cX5_forgets 28 = .ok (.aload_n 0, 1) := by decide +kernel
theorem dX5_forgets_29 : decode cX5_forgets 29 = .ok (.getfield 45, 3) := by decide +kernel
theorem dX5_forgets_32 : decode cX5_forgets 32 = .ok (.iload_n 1, 1) := by decide +kernel
theorem dX5_forgets_33 : decode cX5_forgets 33 = .ok (.iaload, 1) := by decide +kernel
theorem dX5_forgets_34 : decode cX5_forgets 34 = .ok (.if_icmp .ge 35, 3) := by decide +kernel
theorem dX5_forgets_37 : decode cX5_forgets 37 = .ok (.aload_n 0, 1) := by decide +kernel
theorem dX5_forgets_38 : decode cX5_forgets 38 = .ok (.getfield 48, 3) := by decide +kernel
theorem dX5_forgets_41 : decode cX5_forgets 41 = .ok (.bipush 8, 2) := by decide +kernel
theorem dX5_forgets_43 : decode cX5_forgets 43 = .ok (.iload_n 1, 1) := by decide +kernel
theorem dX5_forgets_44 : decode cX5_forgets 44 = .ok (.imul, 1) := by decide +kernel
theorem dX5_forgets_45 : decode cX5_forgets 45 = .ok (.iload 4, 2) := by decide +kernel
theorem dX5_forgets_47 : decode cX5_forgets 47 = .ok (.iadd, 1) := by decide +kernel
theorem dX5_forgets_48 : decode cX5_forgets 48 = .ok (.aload_n 0, 1) := by decide +kernel
theorem dX5_forgets_49 : decode cX5_forgets 49 = .ok (.getfield 48, 3) := by decide +kernel
theorem dX5_forgets_52 : decode cX5_forgets 52 = .ok (.bipush 8, 2) := by decide +kernel
theorem dX5_forgets_54 : decode cX5_forgets 54 = .ok (.iload_n 1, 1) := by decide +kernel
theorem dX5_forgets_55 : decode cX5_forgets 55 = .ok (.imul, 1) := by decide +kernel
theorem dX5_forgets_56 : decode cX5_forgets 56 = .ok (.iload 4, 2) := by decide +kernel
theorem dX5_forgets_58 : decode cX5_forgets 58 = .ok (.iadd, 1) := by decide +kernel
theorem dX5_forgets_59 : decode cX5_forgets 59 = .ok (.iconst 1, 1) := by decide +kernel
theorem dX5_forgets_60 : decode cX5_forgets 60 = .ok (.iadd, 1) := by decide +kernel
theorem dX5_forgets_61 : decode cX5_forgets 61 = .ok (.iaload, 1) := by decide +kernel
theorem dX5_forgets_62 : decode cX5_forgets 62 = .ok (.iastore, 1) := by decide +kernel
theorem dX5_forgets_63 : decode cX5_forgets 63 = .ok (.iinc 4 1, 3) := by decide +kernel
theorem dX5_forgets_66 : decode cX5_forgets 66 = .ok (.goto (-40), 3) := by decide +kernel
theorem dX5_forgets_69 : decode cX5_forgets 69 = .ok (.return_, 1) := by decide +kernel
theorem dX5_endsLease_0 : decode cX5_endsLease 0 = .ok (.aload_n 0, 1) := by decide +kernel
theorem dX5_endsLease_1 : decode cX5_endsLease 1 = .ok (.getfield 36, 3) := by decide +kernel
theorem dX5_endsLease_4 : decode cX5_endsLease 4 = .ok (.iload_n 1, 1) := by decide +kernel
theorem dX5_endsLease_5 : decode cX5_endsLease 5 = .ok (.iconst (-1), 1) := by decide +kernel
theorem dX5_endsLease_6 : decode cX5_endsLease 6 = .ok (.iastore, 1) := by decide +kernel
theorem dX5_endsLease_7 : decode cX5_endsLease 7 = .ok (.aload_n 0, 1) := by decide +kernel
theorem dX5_endsLease_8 : decode cX5_endsLease 8 = .ok (.getfield 39, 3) := by decide +kernel
theorem dX5_endsLease_11 : decode cX5_endsLease 11 = .ok (.iload_n 1, 1) := by decide +kernel
theorem dX5_endsLease_12 : decode cX5_endsLease 12 = .ok (.iconst (-1), 1) := by decide +kernel
theorem dX5_endsLease_13 : decode cX5_endsLease 13 = .ok (.iastore, 1) := by decide +kernel
theorem dX5_endsLease_14 : decode cX5_endsLease 14 = .ok (.return_, 1) := by decide +kernel
theorem dX5_drops_0 : decode cX5_drops 0 = .ok (.aload_n 0, 1) := by decide +kernel
theorem dX5_drops_1 : decode cX5_drops 1 = .ok (.getfield 51, 3) := by decide +kernel
theorem dX5_drops_4 : decode cX5_drops 4 = .ok (.iload_n 1, 1) := by decide +kernel
theorem dX5_drops_5 : decode cX5_drops 5 = .ok (.iload_n 2, 1) := by decide +kernel
theorem dX5_drops_6 : decode cX5_drops 6 = .ok (.invokestatic 104, 3) := by decide +kernel
theorem dX5_drops_9 : decode cX5_drops 9 = .ok (.iconst 0, 1) := by decide +kernel
theorem dX5_drops_10 : decode cX5_drops 10 = .ok (.iastore, 1) := by decide +kernel
theorem dX5_drops_11 : decode cX5_drops 11 = .ok (.aload_n 0, 1) := by decide +kernel
theorem dX5_drops_12 : decode cX5_drops 12 = .ok (.getfield 54, 3) := by decide +kernel
theorem dX5_drops_15 : decode cX5_drops 15 = .ok (.iload_n 1, 1) := by decide +kernel
theorem dX5_drops_16 : decode cX5_drops 16 = .ok (.iload_n 2, 1) := by decide +kernel
theorem dX5_drops_17 : decode cX5_drops 17 = .ok (.invokestatic 104, 3) := by decide +kernel
theorem dX5_drops_20 : decode cX5_drops 20 = .ok (.iconst 0, 1) := by decide +kernel
theorem dX5_drops_21 : decode cX5_drops 21 = .ok (.iastore, 1) := by decide +kernel
theorem dX5_drops_22 : decode cX5_drops 22 = .ok (.aload_n 0, 1) := by decide +kernel
theorem dX5_drops_23 : decode cX5_drops 23 = .ok (.getfield 60, 3) := by decide +kernel
theorem dX5_drops_26 : decode cX5_drops 26 = .ok (.iload_n 1, 1) := by decide +kernel
theorem dX5_drops_27 : decode cX5_drops 27 = .ok (.iload_n 2, 1) := by decide +kernel
theorem dX5_drops_28 : decode cX5_drops 28 = .ok (.invokestatic 104, 3) := by decide +kernel
theorem dX5_drops_31 : decode cX5_drops 31 = .ok (.iconst 0, 1) := by decide +kernel
theorem dX5_drops_32 : decode cX5_drops 32 = .ok (.iastore, 1) := by decide +kernel
theorem dX5_drops_33 : decode cX5_drops 33 = .ok (.aload_n 0, 1) := by decide +kernel
theorem dX5_drops_34 : decode cX5_drops 34 = .ok (.iload_n 2, 1) := by decide +kernel
theorem dX5_drops_35 : decode cX5_drops 35 = .ok (.iload_n 1, 1) := by decide +kernel
theorem dX5_drops_36 : decode cX5_drops 36 = .ok (.invokevirtual 112, 3) := by decide +kernel
theorem dX5_drops_39 : decode cX5_drops 39 = .ok (.iconst (-1), 1) := by decide +kernel
theorem dX5_drops_40 : decode cX5_drops 40 = .ok (.if_icmp .eq 7, 3) := by decide +kernel
theorem dX5_drops_43 : decode cX5_drops 43 = .ok (.iconst 1, 1) := by decide +kernel
theorem dX5_drops_44 : decode cX5_drops 44 = .ok (.goto 4, 3) := by decide +kernel
theorem dX5_drops_47 : decode cX5_drops 47 = .ok (.iconst 0, 1) := by decide +kernel
theorem dX5_drops_48 : decode cX5_drops 48 = .ok (.istore_n 3, 1) := by decide +kernel
theorem dX5_drops_49 : decode cX5_drops 49 = .ok (.aload_n 0, 1) := by decide +kernel
theorem dX5_drops_50 : decode cX5_drops 50 = .ok (.iload_n 2, 1) := by decide +kernel
theorem dX5_drops_51 : decode cX5_drops 51 = .ok (.iload_n 1, 1) := by decide +kernel
theorem dX5_drops_52 : decode cX5_drops 52 = .ok (.invokevirtual 115, 3) := by decide +kernel
theorem dX5_drops_55 : decode cX5_drops 55 = .ok (.iload_n 3, 1) := by decide +kernel
theorem dX5_drops_56 : decode cX5_drops 56 = .ok (.ifCond .eq 18, 3) := by decide +kernel
theorem dX5_drops_59 : decode cX5_drops 59 = .ok (.aload_n 0, 1) := by decide +kernel
theorem dX5_drops_60 : decode cX5_drops 60 = .ok (.getfield 36, 3) := by decide +kernel
theorem dX5_drops_63 : decode cX5_drops 63 = .ok (.iload_n 2, 1) := by decide +kernel
theorem dX5_drops_64 : decode cX5_drops 64 = .ok (.iaload, 1) := by decide +kernel
theorem dX5_drops_65 : decode cX5_drops 65 = .ok (.iload_n 1, 1) := by decide +kernel
theorem dX5_drops_66 : decode cX5_drops 66 = .ok (.if_icmp .ne 8, 3) := by decide +kernel
theorem dX5_drops_69 : decode cX5_drops 69 = .ok (.aload_n 0, 1) := by decide +kernel
theorem dX5_drops_70 : decode cX5_drops 70 = .ok (.iload_n 2, 1) := by decide +kernel
theorem dX5_drops_71 : decode cX5_drops 71 = .ok (.invokevirtual 119, 3) := by decide +kernel
theorem dX5_drops_74 : decode cX5_drops 74 = .ok (.return_, 1) := by decide +kernel
theorem dX5_gets_0 : decode cX5_gets 0 = .ok (.iload_n 1, 1) := by decide +kernel
theorem dX5_gets_1 : decode cX5_gets 1 = .ok (.iload_n 2, 1) := by decide +kernel
theorem dX5_gets_2 : decode cX5_gets 2 = .ok (.invokestatic 104, 3) := by decide +kernel
theorem dX5_gets_5 : decode cX5_gets 5 = .ok (.istore 5, 2) := by decide +kernel
theorem dX5_gets_7 : decode cX5_gets 7 = .ok (.iload_n 3, 1) := by decide +kernel
theorem dX5_gets_8 : decode cX5_gets 8 = .ok (.iload 4, 2) := by decide +kernel
theorem dX5_gets_10 : decode cX5_gets 10 = .ok (.invokestatic 104, 3) := by decide +kernel
theorem dX5_gets_13 : decode cX5_gets 13 = .ok (.istore 6, 2) := by decide +kernel
theorem dX5_gets_15 : decode cX5_gets 15 = .ok (.aload_n 0, 1) := by decide +kernel
theorem dX5_gets_16 : decode cX5_gets 16 = .ok (.getfield 51, 3) := by decide +kernel
theorem dX5_gets_19 : decode cX5_gets 19 = .ok (.iload 5, 2) := by decide +kernel
theorem dX5_gets_21 : decode cX5_gets 21 = .ok (.aload_n 0, 1) := by decide +kernel
theorem dX5_gets_22 : decode cX5_gets 22 = .ok (.getfield 33, 3) := by decide +kernel
theorem dX5_gets_25 : decode cX5_gets 25 = .ok (.iload_n 2, 1) := by decide +kernel
theorem dX5_gets_26 : decode cX5_gets 26 = .ok (.iaload, 1) := by decide +kernel
theorem dX5_gets_27 : decode cX5_gets 27 = .ok (.iastore, 1) := by decide +kernel
theorem dX5_gets_28 : decode cX5_gets 28 = .ok (.aload_n 0, 1) := by decide +kernel
theorem dX5_gets_29 : decode cX5_gets 29 = .ok (.getfield 54, 3) := by decide +kernel
theorem dX5_gets_32 : decode cX5_gets 32 = .ok (.iload 5, 2) := by decide +kernel
theorem dX5_gets_34 : decode cX5_gets 34 = .ok (.aload_n 0, 1) := by decide +kernel
theorem dX5_gets_35 : decode cX5_gets 35 = .ok (.getfield 54, 3) := by decide +kernel
theorem dX5_gets_38 : decode cX5_gets 38 = .ok (.iload 6, 2) := by decide +kernel
theorem dX5_gets_40 : decode cX5_gets 40 = .ok (.iaload, 1) := by decide +kernel
theorem dX5_gets_41 : decode cX5_gets 41 = .ok (.iastore, 1) := by decide +kernel
theorem dX5_gets_42 : decode cX5_gets 42 = .ok (.aload_n 0, 1) := by decide +kernel
theorem dX5_gets_43 : decode cX5_gets 43 = .ok (.getfield 60, 3) := by decide +kernel
theorem dX5_gets_46 : decode cX5_gets 46 = .ok (.iload 5, 2) := by decide +kernel
theorem dX5_gets_48 : decode cX5_gets 48 = .ok (.aload_n 0, 1) := by decide +kernel
theorem dX5_gets_49 : decode cX5_gets 49 = .ok (.getfield 60, 3) := by decide +kernel
theorem dX5_gets_52 : decode cX5_gets 52 = .ok (.iload 6, 2) := by decide +kernel
theorem dX5_gets_54 : decode cX5_gets 54 = .ok (.iaload, 1) := by decide +kernel
theorem dX5_gets_55 : decode cX5_gets 55 = .ok (.iastore, 1) := by decide +kernel
theorem dX5_gets_56 : decode cX5_gets 56 = .ok (.iconst 0, 1) := by decide +kernel
theorem dX5_gets_57 : decode cX5_gets 57 = .ok (.istore 7, 2) := by decide +kernel
theorem dX5_gets_59 : decode cX5_gets 59 = .ok (.iload 7, 2) := by decide +kernel
theorem dX5_gets_61 : decode cX5_gets 61 = .ok (.iconst 4, 1) := by decide +kernel
theorem dX5_gets_62 : decode cX5_gets 62 = .ok (.if_icmp .ge 33, 3) := by decide +kernel
theorem dX5_gets_65 : decode cX5_gets 65 = .ok (.aload_n 0, 1) := by decide +kernel
theorem dX5_gets_66 : decode cX5_gets 66 = .ok (.getfield 57, 3) := by decide +kernel
theorem dX5_gets_69 : decode cX5_gets 69 = .ok (.iconst 4, 1) := by decide +kernel
theorem dX5_gets_70 : decode cX5_gets 70 = .ok (.iload 5, 2) := by decide +kernel
theorem dX5_gets_72 : decode cX5_gets 72 = .ok (.imul, 1) := by decide +kernel
theorem dX5_gets_73 : decode cX5_gets 73 = .ok (.iload 7, 2) := by decide +kernel
theorem dX5_gets_75 : decode cX5_gets 75 = .ok (.iadd, 1) := by decide +kernel
theorem dX5_gets_76 : decode cX5_gets 76 = .ok (.aload_n 0, 1) := by decide +kernel
theorem dX5_gets_77 : decode cX5_gets 77 = .ok (.getfield 57, 3) := by decide +kernel
theorem dX5_gets_80 : decode cX5_gets 80 = .ok (.iconst 4, 1) := by decide +kernel
theorem dX5_gets_81 : decode cX5_gets 81 = .ok (.iload 6, 2) := by decide +kernel
theorem dX5_gets_83 : decode cX5_gets 83 = .ok (.imul, 1) := by decide +kernel
theorem dX5_gets_84 : decode cX5_gets 84 = .ok (.iload 7, 2) := by decide +kernel
theorem dX5_gets_86 : decode cX5_gets 86 = .ok (.iadd, 1) := by decide +kernel
theorem dX5_gets_87 : decode cX5_gets 87 = .ok (.iaload, 1) := by decide +kernel
theorem dX5_gets_88 : decode cX5_gets 88 = .ok (.iastore, 1) := by decide +kernel
theorem dX5_gets_89 : decode cX5_gets 89 = .ok (.iinc 7 1, 3) := by decide +kernel
theorem dX5_gets_92 : decode cX5_gets 92 = .ok (.goto (-33), 3) := by decide +kernel
theorem dX5_gets_95 : decode cX5_gets 95 = .ok (.return_, 1) := by decide +kernel
theorem dX5_isGood_0 : decode cX5_isGood 0 = .ok (.aload_n 0, 1) := by decide +kernel
theorem dX5_isGood_1 : decode cX5_isGood 1 = .ok (.getfield 20, 3) := by decide +kernel
theorem dX5_isGood_4 : decode cX5_isGood 4 = .ok (.iload_n 2, 1) := by decide +kernel
theorem dX5_isGood_5 : decode cX5_isGood 5 = .ok (.baload, 1) := by decide +kernel
theorem dX5_isGood_6 : decode cX5_isGood 6 = .ok (.ifCond .eq 26, 3) := by decide +kernel
theorem dX5_isGood_9 : decode cX5_isGood 9 = .ok (.aload_n 0, 1) := by decide +kernel
theorem dX5_isGood_10 : decode cX5_isGood 10 = .ok (.getfield 51, 3) := by decide +kernel
theorem dX5_isGood_13 : decode cX5_isGood 13 = .ok (.iload_n 2, 1) := by decide +kernel
theorem dX5_isGood_14 : decode cX5_isGood 14 = .ok (.iload_n 1, 1) := by decide +kernel
theorem dX5_isGood_15 : decode cX5_isGood 15 = .ok (.invokestatic 104, 3) := by decide +kernel
theorem dX5_isGood_18 : decode cX5_isGood 18 = .ok (.iaload, 1) := by decide +kernel
theorem dX5_isGood_19 : decode cX5_isGood 19 = .ok (.aload_n 0, 1) := by decide +kernel
theorem dX5_isGood_20 : decode cX5_isGood 20 = .ok (.getfield 33, 3) := by decide +kernel
theorem dX5_isGood_23 : decode cX5_isGood 23 = .ok (.iload_n 1, 1) := by decide +kernel
theorem dX5_isGood_24 : decode cX5_isGood 24 = .ok (.iaload, 1) := by decide +kernel
theorem dX5_isGood_25 : decode cX5_isGood 25 = .ok (.if_icmp .ne 7, 3) := by decide +kernel
theorem dX5_isGood_28 : decode cX5_isGood 28 = .ok (.iconst 1, 1) := by decide +kernel
theorem dX5_isGood_29 : decode cX5_isGood 29 = .ok (.goto 4, 3) := by decide +kernel
theorem dX5_isGood_32 : decode cX5_isGood 32 = .ok (.iconst 0, 1) := by decide +kernel
theorem dX5_isGood_33 : decode cX5_isGood 33 = .ok (.ireturn, 1) := by decide +kernel
theorem dX5_goodMany_0 : decode cX5_goodMany 0 = .ok (.iconst 0, 1) := by decide +kernel
theorem dX5_goodMany_1 : decode cX5_goodMany 1 = .ok (.istore_n 2, 1) := by decide +kernel
theorem dX5_goodMany_2 : decode cX5_goodMany 2 = .ok (.iconst 0, 1) := by decide +kernel
theorem dX5_goodMany_3 : decode cX5_goodMany 3 = .ok (.istore_n 3, 1) := by decide +kernel
theorem dX5_goodMany_4 : decode cX5_goodMany 4 = .ok (.iload_n 3, 1) := by decide +kernel
theorem dX5_goodMany_5 : decode cX5_goodMany 5 = .ok (.aload_n 0, 1) := by decide +kernel
theorem dX5_goodMany_6 : decode cX5_goodMany 6 = .ok (.getfield 45, 3) := by decide +kernel
theorem dX5_goodMany_9 : decode cX5_goodMany 9 = .ok (.iload_n 1, 1) := by decide +kernel
theorem dX5_goodMany_10 : decode cX5_goodMany 10 = .ok (.iaload, 1) := by decide +kernel
theorem dX5_goodMany_11 : decode cX5_goodMany 11 = .ok (.if_icmp .ge 36, 3) := by decide +kernel
theorem dX5_goodMany_14 : decode cX5_goodMany 14 = .ok (.iload_n 2, 1) := by decide +kernel
theorem dX5_goodMany_15 : decode cX5_goodMany 15 = .ok (.aload_n 0, 1) := by decide +kernel
theorem dX5_goodMany_16 : decode cX5_goodMany 16 = .ok (.iload_n 1, 1) := by decide +kernel
theorem dX5_goodMany_17 : decode cX5_goodMany 17 = .ok (.aload_n 0, 1) := by decide +kernel
theorem dX5_goodMany_18 : decode cX5_goodMany 18 = .ok (.getfield 48, 3) := by decide +kernel
theorem dX5_goodMany_21 : decode cX5_goodMany 21 = .ok (.bipush 8, 2) := by decide +kernel
theorem dX5_goodMany_23 : decode cX5_goodMany 23 = .ok (.iload_n 1, 1) := by decide +kernel
theorem dX5_goodMany_24 : decode cX5_goodMany 24 = .ok (.imul, 1) := by decide +kernel
theorem dX5_goodMany_25 : decode cX5_goodMany 25 = .ok (.iload_n 3, 1) := by decide +kernel
theorem dX5_goodMany_26 : decode cX5_goodMany 26 = .ok (.iadd, 1) := by decide +kernel
theorem dX5_goodMany_27 : decode cX5_goodMany 27 = .ok (.iaload, 1) := by decide +kernel
theorem dX5_goodMany_28 : decode cX5_goodMany 28 = .ok (.invokevirtual 123, 3) := by decide +kernel
theorem dX5_goodMany_31 : decode cX5_goodMany 31 = .ok (.ifCond .eq 7, 3) := by decide +kernel
theorem dX5_goodMany_34 : decode cX5_goodMany 34 = .ok (.iconst 1, 1) := by decide +kernel
theorem dX5_goodMany_35 : decode cX5_goodMany 35 = .ok (.goto 4, 3) := by decide +kernel
theorem dX5_goodMany_38 : decode cX5_goodMany 38 = .ok (.iconst 0, 1) := by decide +kernel
theorem dX5_goodMany_39 : decode cX5_goodMany 39 = .ok (.iadd, 1) := by decide +kernel
theorem dX5_goodMany_40 : decode cX5_goodMany 40 = .ok (.istore_n 2, 1) := by decide +kernel
theorem dX5_goodMany_41 : decode cX5_goodMany 41 = .ok (.iinc 3 1, 3) := by decide +kernel
theorem dX5_goodMany_44 : decode cX5_goodMany 44 = .ok (.goto (-40), 3) := by decide +kernel
theorem dX5_goodMany_47 : decode cX5_goodMany 47 = .ok (.iload_n 2, 1) := by decide +kernel
theorem dX5_goodMany_48 : decode cX5_goodMany 48 = .ok (.ireturn, 1) := by decide +kernel
theorem dX5_firstGood_0 : decode cX5_firstGood 0 = .ok (.iconst 0, 1) := by decide +kernel
theorem dX5_firstGood_1 : decode cX5_firstGood 1 = .ok (.istore_n 3, 1) := by decide +kernel
theorem dX5_firstGood_2 : decode cX5_firstGood 2 = .ok (.iload_n 3, 1) := by decide +kernel
theorem dX5_firstGood_3 : decode cX5_firstGood 3 = .ok (.aload_n 0, 1) := by decide +kernel
theorem dX5_firstGood_4 : decode cX5_firstGood 4 = .ok (.getfield 45, 3) := by decide +kernel
theorem dX5_firstGood_7 : decode cX5_firstGood 7 = .ok (.iload_n 1, 1) := by decide +kernel
theorem dX5_firstGood_8 : decode cX5_firstGood 8 = .ok (.iaload, 1) := by decide +kernel
theorem dX5_firstGood_9 : decode cX5_firstGood 9 = .ok (.if_icmp .ge 53, 3) := by decide +kernel
theorem dX5_firstGood_12 : decode cX5_firstGood 12 = .ok (.aload_n 0, 1) := by decide +kernel
theorem dX5_firstGood_13 : decode cX5_firstGood 13 = .ok (.getfield 48, 3) := by decide +kernel
theorem dX5_firstGood_16 : decode cX5_firstGood 16 = .ok (.bipush 8, 2) := by decide +kernel
theorem dX5_firstGood_18 : decode cX5_firstGood 18 = .ok (.iload_n 1, 1) := by decide +kernel
theorem dX5_firstGood_19 : decode cX5_firstGood 19 = .ok (.imul, 1) := by decide +kernel
theorem dX5_firstGood_20 : decode cX5_firstGood 20 = .ok (.iload_n 3, 1) := by decide +kernel
theorem dX5_firstGood_21 : decode cX5_firstGood 21 = .ok (.iadd, 1) := by decide +kernel
theorem dX5_firstGood_22 : decode cX5_firstGood 22 = .ok (.iaload, 1) := by decide +kernel
theorem dX5_firstGood_23 : decode cX5_firstGood 23 = .ok (.istore 4, 2) := by decide +kernel
theorem dX5_firstGood_25 : decode cX5_firstGood 25 = .ok (.aload_n 0, 1) := by decide +kernel
theorem dX5_firstGood_26 : decode cX5_firstGood 26 = .ok (.iload_n 1, 1) := by decide +kernel
theorem dX5_firstGood_27 : decode cX5_firstGood 27 = .ok (.iload 4, 2) := by decide +kernel
theorem dX5_firstGood_29 : decode cX5_firstGood 29 = .ok (.invokevirtual 123, 3) := by decide +kernel
theorem dX5_firstGood_32 : decode cX5_firstGood 32 = .ok (.ifCond .eq 24, 3) := by decide +kernel
theorem dX5_firstGood_35 : decode cX5_firstGood 35 = .ok (.iload_n 2, 1) := by decide +kernel
theorem dX5_firstGood_36 : decode cX5_firstGood 36 = .ok (.ifCond .eq 17, 3) := by decide +kernel
theorem dX5_firstGood_39 : decode cX5_firstGood 39 = .ok (.aload_n 0, 1) := by decide +kernel
theorem dX5_firstGood_40 : decode cX5_firstGood 40 = .ok (.getfield 60, 3) := by decide +kernel
theorem dX5_firstGood_43 : decode cX5_firstGood 43 = .ok (.iload 4, 2) := by decide +kernel
theorem dX5_firstGood_45 : decode cX5_firstGood 45 = .ok (.iload_n 1, 1) := by decide +kernel
theorem dX5_firstGood_46 : decode cX5_firstGood 46 = .ok (.invokestatic 104, 3) := by decide +kernel
theorem dX5_firstGood_49 : decode cX5_firstGood 49 = .ok (.iaload, 1) := by decide +kernel
theorem dX5_firstGood_50 : decode cX5_firstGood 50 = .ok (.ifCond .ne 6, 3) := by decide +kernel
theorem dX5_firstGood_53 : decode cX5_firstGood 53 = .ok (.iload 4, 2) := by decide +kernel
theorem dX5_firstGood_55 : decode cX5_firstGood 55 = .ok (.ireturn, 1) := by decide +kernel
theorem dX5_firstGood_56 : decode cX5_firstGood 56 = .ok (.iinc 3 1, 3) := by decide +kernel
theorem dX5_firstGood_59 : decode cX5_firstGood 59 = .ok (.goto (-57), 3) := by decide +kernel
theorem dX5_firstGood_62 : decode cX5_firstGood 62 = .ok (.iconst (-1), 1) := by decide +kernel
theorem dX5_firstGood_63 : decode cX5_firstGood 63 = .ok (.ireturn, 1) := by decide +kernel
theorem dX5_inRack_0 : decode cX5_inRack 0 = .ok (.iconst 0, 1) := by decide +kernel
theorem dX5_inRack_1 : decode cX5_inRack 1 = .ok (.istore_n 3, 1) := by decide +kernel
theorem dX5_inRack_2 : decode cX5_inRack 2 = .ok (.iconst 0, 1) := by decide +kernel
theorem dX5_inRack_3 : decode cX5_inRack 3 = .ok (.istore 4, 2) := by decide +kernel
theorem dX5_inRack_5 : decode cX5_inRack 5 = .ok (.iload 4, 2) := by decide +kernel
theorem dX5_inRack_7 : decode cX5_inRack 7 = .ok (.aload_n 0, 1) := by decide +kernel
theorem dX5_inRack_8 : decode cX5_inRack 8 = .ok (.getfield 45, 3) := by decide +kernel
theorem dX5_inRack_11 : decode cX5_inRack 11 = .ok (.iload_n 1, 1) := by decide +kernel
theorem dX5_inRack_12 : decode cX5_inRack 12 = .ok (.iaload, 1) := by decide +kernel
theorem dX5_inRack_13 : decode cX5_inRack 13 = .ok (.if_icmp .ge 38, 3) := by decide +kernel
theorem dX5_inRack_16 : decode cX5_inRack 16 = .ok (.iload_n 3, 1) := by decide +kernel
theorem dX5_inRack_17 : decode cX5_inRack 17 = .ok (.aload_n 0, 1) := by decide +kernel
theorem dX5_inRack_18 : decode cX5_inRack 18 = .ok (.getfield 13, 3) := by decide +kernel
theorem dX5_inRack_21 : decode cX5_inRack 21 = .ok (.aload_n 0, 1) := by decide +kernel
theorem dX5_inRack_22 : decode cX5_inRack 22 = .ok (.getfield 48, 3) := by decide +kernel
theorem dX5_inRack_25 : decode cX5_inRack 25 = .ok (.bipush 8, 2) := by decide +kernel
theorem dX5_inRack_27 : decode cX5_inRack 27 = .ok (.iload_n 1, 1) := by decide +kernel
theorem dX5_inRack_28 : decode cX5_inRack 28 = .ok (.imul, 1) := by decide +kernel
theorem dX5_inRack_29 : decode cX5_inRack 29 = .ok (.iload 4, 2) := by decide +kernel
theorem dX5_inRack_31 : decode cX5_inRack 31 = .ok (.iadd, 1) := by decide +kernel
theorem dX5_inRack_32 : decode cX5_inRack 32 = .ok (.iaload, 1) := by decide +kernel
theorem dX5_inRack_33 : decode cX5_inRack 33 = .ok (.iaload, 1) := by decide +kernel
theorem dX5_inRack_34 : decode cX5_inRack 34 = .ok (.iload_n 2, 1) := by decide +kernel
theorem dX5_inRack_35 : decode cX5_inRack 35 = .ok (.if_icmp .ne 7, 3) := by decide +kernel
theorem dX5_inRack_38 : decode cX5_inRack 38 = .ok (.iconst 1, 1) := by decide +kernel
theorem dX5_inRack_39 : decode cX5_inRack 39 = .ok (.goto 4, 3) := by decide +kernel
theorem dX5_inRack_42 : decode cX5_inRack 42 = .ok (.iconst 0, 1) := by decide +kernel
theorem dX5_inRack_43 : decode cX5_inRack 43 = .ok (.iadd, 1) := by decide +kernel
theorem dX5_inRack_44 : decode cX5_inRack 44 = .ok (.istore_n 3, 1) := by decide +kernel
theorem dX5_inRack_45 : decode cX5_inRack 45 = .ok (.iinc 4 1, 3) := by decide +kernel
theorem dX5_inRack_48 : decode cX5_inRack 48 = .ok (.goto (-43), 3) := by decide +kernel
theorem dX5_inRack_51 : decode cX5_inRack 51 = .ok (.iload_n 3, 1) := by decide +kernel
theorem dX5_inRack_52 : decode cX5_inRack 52 = .ok (.ireturn, 1) := by decide +kernel
theorem dX5_isOpen_0 : decode cX5_isOpen 0 = .ok (.aload_n 0, 1) := by decide +kernel
theorem dX5_isOpen_1 : decode cX5_isOpen 1 = .ok (.getfield 27, 3) := by decide +kernel
theorem dX5_isOpen_4 : decode cX5_isOpen 4 = .ok (.iload_n 1, 1) := by decide +kernel
theorem dX5_isOpen_5 : decode cX5_isOpen 5 = .ok (.baload, 1) := by decide +kernel
theorem dX5_isOpen_6 : decode cX5_isOpen 6 = .ok (.ifCond .eq 30, 3) := by decide +kernel
theorem dX5_isOpen_9 : decode cX5_isOpen 9 = .ok (.aload_n 0, 1) := by decide +kernel
theorem dX5_isOpen_10 : decode cX5_isOpen 10 = .ok (.getfield 20, 3) := by decide +kernel
theorem dX5_isOpen_13 : decode cX5_isOpen 13 = .ok (.iload_n 1, 1) := by decide +kernel
theorem dX5_isOpen_14 : decode cX5_isOpen 14 = .ok (.baload, 1) := by decide +kernel
theorem dX5_isOpen_15 : decode cX5_isOpen 15 = .ok (.ifCond .eq 21, 3) := by decide +kernel
theorem dX5_isOpen_18 : decode cX5_isOpen 18 = .ok (.aload_n 0, 1) := by decide +kernel
theorem dX5_isOpen_19 : decode cX5_isOpen 19 = .ok (.iload_n 1, 1) := by decide +kernel
theorem dX5_isOpen_20 : decode cX5_isOpen 20 = .ok (.invokevirtual 127, 3) := by decide +kernel
theorem dX5_isOpen_23 : decode cX5_isOpen 23 = .ok (.aload_n 0, 1) := by decide +kernel
theorem dX5_isOpen_24 : decode cX5_isOpen 24 = .ok (.getfield 17, 3) := by decide +kernel
theorem dX5_isOpen_27 : decode cX5_isOpen 27 = .ok (.iload_n 1, 1) := by decide +kernel
theorem dX5_isOpen_28 : decode cX5_isOpen 28 = .ok (.iaload, 1) := by decide +kernel
theorem dX5_isOpen_29 : decode cX5_isOpen 29 = .ok (.if_icmp .ge 7, 3) := by decide +kernel
theorem dX5_isOpen_32 : decode cX5_isOpen 32 = .ok (.iconst 1, 1) := by decide +kernel
theorem dX5_isOpen_33 : decode cX5_isOpen 33 = .ok (.goto 4, 3) := by decide +kernel
theorem dX5_isOpen_36 : decode cX5_isOpen 36 = .ok (.iconst 0, 1) := by decide +kernel
theorem dX5_isOpen_37 : decode cX5_isOpen 37 = .ok (.ireturn, 1) := by decide +kernel
theorem dX5_best_0 : decode cX5_best 0 = .ok (.iconst (-1), 1) := by decide +kernel
theorem dX5_best_1 : decode cX5_best 1 = .ok (.istore_n 2, 1) := by decide +kernel
theorem dX5_best_2 : decode cX5_best 2 = .ok (.iconst 0, 1) := by decide +kernel
theorem dX5_best_3 : decode cX5_best 3 = .ok (.istore_n 3, 1) := by decide +kernel
theorem dX5_best_4 : decode cX5_best 4 = .ok (.iconst 0, 1) := by decide +kernel
theorem dX5_best_5 : decode cX5_best 5 = .ok (.istore 4, 2) := by decide +kernel
theorem dX5_best_7 : decode cX5_best 7 = .ok (.iconst 0, 1) := by decide +kernel
theorem dX5_best_8 : decode cX5_best 8 = .ok (.istore 5, 2) := by decide +kernel
theorem dX5_best_10 : decode cX5_best 10 = .ok (.iload 5, 2) := by decide +kernel
theorem dX5_best_12 : decode cX5_best 12 = .ok (.aload_n 0, 1) := by decide +kernel
theorem dX5_best_13 : decode cX5_best 13 = .ok (.getfield 78, 3) := by decide +kernel
theorem dX5_best_16 : decode cX5_best 16 = .ok (.if_icmp .ge 88, 3) := by decide +kernel
theorem dX5_best_19 : decode cX5_best 19 = .ok (.aload_n 0, 1) := by decide +kernel
theorem dX5_best_20 : decode cX5_best 20 = .ok (.iload 5, 2) := by decide +kernel
theorem dX5_best_22 : decode cX5_best 22 = .ok (.invokevirtual 131, 3) := by decide +kernel
theorem dX5_best_25 : decode cX5_best 25 = .ok (.ifCond .eq 73, 3) := by decide +kernel
theorem dX5_best_28 : decode cX5_best 28 = .ok (.aload_n 0, 1) := by decide +kernel
theorem dX5_best_29 : decode cX5_best 29 = .ok (.getfield 51, 3) := by decide +kernel
theorem dX5_best_32 : decode cX5_best 32 = .ok (.iload 5, 2) := by decide +kernel
theorem dX5_best_34 : decode cX5_best 34 = .ok (.iload_n 1, 1) := by decide +kernel
theorem dX5_best_35 : decode cX5_best 35 = .ok (.invokestatic 104, 3) := by decide +kernel
theorem dX5_best_38 : decode cX5_best 38 = .ok (.iaload, 1) := by decide +kernel
theorem dX5_best_39 : decode cX5_best 39 = .ok (.ifCond .ne 59, 3) := by decide +kernel
theorem dX5_best_42 : decode cX5_best 42 = .ok (.aload_n 0, 1) := by decide +kernel
theorem dX5_best_43 : decode cX5_best 43 = .ok (.iload_n 1, 1) := by decide +kernel
theorem dX5_best_44 : decode cX5_best 44 = .ok (.aload_n 0, 1) := by decide +kernel
theorem dX5_best_45 : decode cX5_best 45 = .ok (.getfield 13, 3) := by decide +kernel
theorem dX5_best_48 : decode cX5_best 48 = .ok (.iload 5, 2) := by decide +kernel
theorem dX5_best_50 : decode cX5_best 50 = .ok (.iaload, 1) := by decide +kernel
theorem dX5_best_51 : decode cX5_best 51 = .ok (.invokevirtual 134, 3) := by decide +kernel
theorem dX5_best_54 : decode cX5_best 54 = .ok (.istore 6, 2) := by decide +kernel
theorem dX5_best_56 : decode cX5_best 56 = .ok (.aload_n 0, 1) := by decide +kernel
theorem dX5_best_57 : decode cX5_best 57 = .ok (.iload 5, 2) := by decide +kernel
theorem dX5_best_59 : decode cX5_best 59 = .ok (.invokevirtual 127, 3) := by decide +kernel
theorem dX5_best_62 : decode cX5_best 62 = .ok (.istore 7, 2) := by decide +kernel
theorem dX5_best_64 : decode cX5_best 64 = .ok (.iload_n 2, 1) := by decide +kernel
theorem dX5_best_65 : decode cX5_best 65 = .ok (.iconst (-1), 1) := by decide +kernel
theorem dX5_best_66 : decode cX5_best 66 = .ok (.if_icmp .eq 22, 3) := by decide +kernel
theorem dX5_best_69 : decode cX5_best 69 = .ok (.iload 6, 2) := by decide +kernel
theorem dX5_best_71 : decode cX5_best 71 = .ok (.iload_n 3, 1) := by decide +kernel
theorem dX5_best_72 : decode cX5_best 72 = .ok (.if_icmp .lt 16, 3) := by decide +kernel
theorem dX5_best_75 : decode cX5_best 75 = .ok (.iload 6, 2) := by decide +kernel
theorem dX5_best_77 : decode cX5_best 77 = .ok (.iload_n 3, 1) := by decide +kernel
theorem dX5_best_78 : decode cX5_best 78 = .ok (.if_icmp .ne 20, 3) := by decide +kernel
theorem dX5_best_81 : decode cX5_best 81 = .ok (.iload 7, 2) := by decide +kernel
theorem dX5_best_83 : decode cX5_best 83 = .ok (.iload 4, 2) := by decide +kernel
theorem dX5_best_85 : decode cX5_best 85 = .ok (.if_icmp .ge 13, 3) := by decide +kernel
theorem dX5_best_88 : decode cX5_best 88 = .ok (.iload 5, 2) := by decide +kernel
theorem dX5_best_90 : decode cX5_best 90 = .ok (.istore_n 2, 1) := by decide +kernel
theorem dX5_best_91 : decode cX5_best 91 = .ok (.iload 6, 2) := by decide +kernel
theorem dX5_best_93 : decode cX5_best 93 = .ok (.istore_n 3, 1) := by decide +kernel
theorem dX5_best_94 : decode cX5_best 94 = .ok (.iload 7, 2) := by decide +kernel
theorem dX5_best_96 : decode cX5_best 96 = .ok (.istore 4, 2) := by decide +kernel
theorem dX5_best_98 : decode cX5_best 98 = .ok (.iinc 5 1, 3) := by decide +kernel
theorem dX5_best_101 : decode cX5_best 101 = .ok (.goto (-91), 3) := by decide +kernel
theorem dX5_best_104 : decode cX5_best 104 = .ok (.iload_n 2, 1) := by decide +kernel
theorem dX5_best_105 : decode cX5_best 105 = .ok (.ireturn, 1) := by decide +kernel
theorem dX5_filesWith_0 : decode cX5_filesWith 0 = .ok (.iconst 0, 1) := by decide +kernel
theorem dX5_filesWith_1 : decode cX5_filesWith 1 = .ok (.istore_n 3, 1) := by decide +kernel
theorem dX5_filesWith_2 : decode cX5_filesWith 2 = .ok (.iconst 0, 1) := by decide +kernel
theorem dX5_filesWith_3 : decode cX5_filesWith 3 = .ok (.istore 4, 2) := by decide +kernel
theorem dX5_filesWith_5 : decode cX5_filesWith 5 = .ok (.iload 4, 2) := by decide +kernel
theorem dX5_filesWith_7 : decode cX5_filesWith 7 = .ok (.aload_n 0, 1) := by decide +kernel
theorem dX5_filesWith_8 : decode cX5_filesWith 8 = .ok (.getfield 88, 3) := by decide +kernel
theorem dX5_filesWith_11 : decode cX5_filesWith 11 = .ok (.if_icmp .ge 72, 3) := by decide +kernel
theorem dX5_filesWith_14 : decode cX5_filesWith 14 = .ok (.iconst 0, 1) := by decide +kernel
theorem dX5_filesWith_15 : decode cX5_filesWith 15 = .ok (.istore 5, 2) := by decide +kernel
theorem dX5_filesWith_17 : decode cX5_filesWith 17 = .ok (.iload 5, 2) := by decide +kernel
theorem dX5_filesWith_19 : decode cX5_filesWith 19 = .ok (.aload_n 0, 1) := by decide +kernel
theorem dX5_filesWith_20 : decode cX5_filesWith 20 = .ok (.getfield 69, 3) := by decide +kernel
theorem dX5_filesWith_23 : decode cX5_filesWith 23 = .ok (.iload 4, 2) := by decide +kernel
theorem dX5_filesWith_25 : decode cX5_filesWith 25 = .ok (.iaload, 1) := by decide +kernel
theorem dX5_filesWith_26 : decode cX5_filesWith 26 = .ok (.if_icmp .ge 51, 3) := by decide +kernel
theorem dX5_filesWith_29 : decode cX5_filesWith 29 = .ok (.aload_n 0, 1) := by decide +kernel
theorem dX5_filesWith_30 : decode cX5_filesWith 30 = .ok (.getfield 63, 3) := by decide +kernel
theorem dX5_filesWith_33 : decode cX5_filesWith 33 = .ok (.iload 4, 2) := by decide +kernel
theorem dX5_filesWith_35 : decode cX5_filesWith 35 = .ok (.iaload, 1) := by decide +kernel
theorem dX5_filesWith_36 : decode cX5_filesWith 36 = .ok (.iconst 2, 1) := by decide +kernel
theorem dX5_filesWith_37 : decode cX5_filesWith 37 = .ok (.if_icmp .eq 40, 3) := by decide +kernel
theorem dX5_filesWith_40 : decode cX5_filesWith 40 = .ok (.iload 4, 2) := by decide +kernel
theorem dX5_filesWith_42 : decode cX5_filesWith 42 = .ok (.iload_n 2, 1) := by decide +kernel
theorem dX5_filesWith_43 : decode cX5_filesWith 43 = .ok (.if_icmp .eq 34, 3) := by decide +kernel
theorem dX5_filesWith_46 : decode cX5_filesWith 46 = .ok (.iload_n 3, 1) := by decide +kernel
theorem dX5_filesWith_47 : decode cX5_filesWith 47 = .ok (.aload_n 0, 1) := by decide +kernel
theorem dX5_filesWith_48 : decode cX5_filesWith 48 = .ok (.getfield 72, 3) := by decide +kernel
theorem dX5_filesWith_51 : decode cX5_filesWith 51 = .ok (.bipush 6, 2) := by decide +kernel
theorem dX5_filesWith_53 : decode cX5_filesWith 53 = .ok (.iload 4, 2) := by decide +kernel
theorem dX5_filesWith_55 : decode cX5_filesWith 55 = .ok (.imul, 1) := by decide +kernel
theorem dX5_filesWith_56 : decode cX5_filesWith 56 = .ok (.iload 5, 2) := by decide +kernel
theorem dX5_filesWith_58 : decode cX5_filesWith 58 = .ok (.iadd, 1) := by decide +kernel
theorem dX5_filesWith_59 : decode cX5_filesWith 59 = .ok (.iaload, 1) := by decide +kernel
theorem dX5_filesWith_60 : decode cX5_filesWith 60 = .ok (.iload_n 1, 1) := by decide +kernel
theorem dX5_filesWith_61 : decode cX5_filesWith 61 = .ok (.if_icmp .ne 7, 3) := by decide +kernel
theorem dX5_filesWith_64 : decode cX5_filesWith 64 = .ok (.iconst 1, 1) := by decide +kernel
theorem dX5_filesWith_65 : decode cX5_filesWith 65 = .ok (.goto 4, 3) := by decide +kernel
theorem dX5_filesWith_68 : decode cX5_filesWith 68 = .ok (.iconst 0, 1) := by decide +kernel
theorem dX5_filesWith_69 : decode cX5_filesWith 69 = .ok (.iadd, 1) := by decide +kernel
theorem dX5_filesWith_70 : decode cX5_filesWith 70 = .ok (.istore_n 3, 1) := by decide +kernel
theorem dX5_filesWith_71 : decode cX5_filesWith 71 = .ok (.iinc 5 1, 3) := by decide +kernel
theorem dX5_filesWith_74 : decode cX5_filesWith 74 = .ok (.goto (-57), 3) := by decide +kernel
theorem dX5_filesWith_77 : decode cX5_filesWith 77 = .ok (.iinc 4 1, 3) := by decide +kernel
theorem dX5_filesWith_80 : decode cX5_filesWith 80 = .ok (.goto (-75), 3) := by decide +kernel
theorem dX5_filesWith_83 : decode cX5_filesWith 83 = .ok (.iload_n 3, 1) := by decide +kernel
theorem dX5_filesWith_84 : decode cX5_filesWith 84 = .ok (.ireturn, 1) := by decide +kernel
theorem dX5_isGone_0 : decode cX5_isGone 0 = .ok (.aload_n 0, 1) := by decide +kernel
theorem dX5_isGone_1 : decode cX5_isGone 1 = .ok (.iload_n 1, 1) := by decide +kernel
theorem dX5_isGone_2 : decode cX5_isGone 2 = .ok (.iconst (-1), 1) := by decide +kernel
theorem dX5_isGone_3 : decode cX5_isGone 3 = .ok (.invokevirtual 137, 3) := by decide +kernel
theorem dX5_isGone_6 : decode cX5_isGone 6 = .ok (.ifCond .ne 7, 3) := by decide +kernel
theorem dX5_isGone_9 : decode cX5_isGone 9 = .ok (.iconst 1, 1) := by decide +kernel
theorem dX5_isGone_10 : decode cX5_isGone 10 = .ok (.goto 4, 3) := by decide +kernel
theorem dX5_isGone_13 : decode cX5_isGone 13 = .ok (.iconst 0, 1) := by decide +kernel
theorem dX5_isGone_14 : decode cX5_isGone 14 = .ok (.ireturn, 1) := by decide +kernel
theorem dX5_file_0 : decode cX5_file 0 = .ok (.aload_n 0, 1) := by decide +kernel
theorem dX5_file_1 : decode cX5_file 1 = .ok (.aload_n 0, 1) := by decide +kernel
theorem dX5_file_2 : decode cX5_file 2 = .ok (.getfield 88, 3) := by decide +kernel
theorem dX5_file_5 : decode cX5_file 5 = .ok (.bipush 20, 2) := by decide +kernel
theorem dX5_file_7 : decode cX5_file 7 = .ok (.if_icmp .ne 7, 3) := by decide +kernel
theorem dX5_file_10 : decode cX5_file 10 = .ok (.iconst 1, 1) := by decide +kernel
theorem dX5_file_11 : decode cX5_file 11 = .ok (.goto 4, 3) := by decide +kernel
theorem dX5_file_14 : decode cX5_file 14 = .ok (.iconst 0, 1) := by decide +kernel
theorem dX5_file_15 : decode cX5_file 15 = .ok (.invokevirtual 91, 3) := by decide +kernel
theorem dX5_file_18 : decode cX5_file 18 = .ok (.ifCond .ne 5, 3) := by decide +kernel
theorem dX5_file_21 : decode cX5_file 21 = .ok (.iconst 0, 1) := by decide +kernel
theorem dX5_file_22 : decode cX5_file 22 = .ok (.ireturn, 1) := by decide +kernel
theorem dX5_file_23 : decode cX5_file 23 = .ok (.aload_n 0, 1) := by decide +kernel
theorem dX5_file_24 : decode cX5_file 24 = .ok (.getfield 63, 3) := by decide +kernel
theorem dX5_file_27 : decode cX5_file 27 = .ok (.aload_n 0, 1) := by decide +kernel
theorem dX5_file_28 : decode cX5_file 28 = .ok (.getfield 88, 3) := by decide +kernel
theorem dX5_file_31 : decode cX5_file 31 = .ok (.iconst 0, 1) := by decide +kernel
theorem dX5_file_32 : decode cX5_file 32 = .ok (.iastore, 1) := by decide +kernel
theorem dX5_file_33 : decode cX5_file 33 = .ok (.aload_n 0, 1) := by decide +kernel
theorem dX5_file_34 : decode cX5_file 34 = .ok (.getfield 69, 3) := by decide +kernel
theorem dX5_file_37 : decode cX5_file 37 = .ok (.aload_n 0, 1) := by decide +kernel
theorem dX5_file_38 : decode cX5_file 38 = .ok (.getfield 88, 3) := by decide +kernel
theorem dX5_file_41 : decode cX5_file 41 = .ok (.iconst 0, 1) := by decide +kernel
theorem dX5_file_42 : decode cX5_file 42 = .ok (.iastore, 1) := by decide +kernel
theorem dX5_file_43 : decode cX5_file 43 = .ok (.aload_n 0, 1) := by decide +kernel
theorem dX5_file_44 : decode cX5_file 44 = .ok (.dup, 1) := by decide +kernel
theorem dX5_file_45 : decode cX5_file 45 = .ok (.getfield 88, 3) := by decide +kernel
theorem dX5_file_48 : decode cX5_file 48 = .ok (.iconst 1, 1) := by decide +kernel
theorem dX5_file_49 : decode cX5_file 49 = .ok (.iadd, 1) := by decide +kernel
theorem dX5_file_50 : decode cX5_file 50 = .ok (.putfield 88, 3) := by decide +kernel
theorem dX5_file_53 : decode cX5_file 53 = .ok (.aload_n 0, 1) := by decide +kernel
theorem dX5_file_54 : decode cX5_file 54 = .ok (.getfield 88, 3) := by decide +kernel
theorem dX5_file_57 : decode cX5_file 57 = .ok (.iconst 1, 1) := by decide +kernel
theorem dX5_file_58 : decode cX5_file 58 = .ok (.isub, 1) := by decide +kernel
theorem dX5_file_59 : decode cX5_file 59 = .ok (.ireturn, 1) := by decide +kernel
theorem dX5_snapshot_0 : decode cX5_snapshot 0 = .ok (.aload_n 0, 1) := by decide +kernel
theorem dX5_snapshot_1 : decode cX5_snapshot 1 = .ok (.aload_n 0, 1) := by decide +kernel
theorem dX5_snapshot_2 : decode cX5_snapshot 2 = .ok (.iload_n 1, 1) := by decide +kernel
theorem dX5_snapshot_3 : decode cX5_snapshot 3 = .ok (.invokevirtual 140, 3) := by decide +kernel
theorem dX5_snapshot_6 : decode cX5_snapshot 6 = .ok (.ifCond .ne 7, 3) := by decide +kernel
theorem dX5_snapshot_9 : decode cX5_snapshot 9 = .ok (.iconst 1, 1) := by decide +kernel
theorem dX5_snapshot_10 : decode cX5_snapshot 10 = .ok (.goto 26, 3) := by decide +kernel
theorem dX5_snapshot_13 : decode cX5_snapshot 13 = .ok (.aload_n 0, 1) := by decide +kernel
theorem dX5_snapshot_14 : decode cX5_snapshot 14 = .ok (.getfield 63, 3) := by decide +kernel
theorem dX5_snapshot_17 : decode cX5_snapshot 17 = .ok (.iload_n 1, 1) := by decide +kernel
theorem dX5_snapshot_18 : decode cX5_snapshot 18 = .ok (.iaload, 1) := by decide +kernel
theorem dX5_snapshot_19 : decode cX5_snapshot 19 = .ok (.ifCond .ne 12, 3) := by decide +kernel
theorem dX5_snapshot_22 : decode cX5_snapshot 22 = .ok (.aload_n 0, 1) := by decide +kernel
theorem dX5_snapshot_23 : decode cX5_snapshot 23 = .ok (.getfield 88, 3) := by decide +kernel
theorem dX5_snapshot_26 : decode cX5_snapshot 26 = .ok (.bipush 20, 2) := by decide +kernel
theorem dX5_snapshot_28 : decode cX5_snapshot 28 = .ok (.if_icmp .ne 7, 3) := by decide +kernel
theorem dX5_snapshot_31 : decode cX5_snapshot 31 = .ok (.iconst 2, 1) := by decide +kernel
theorem dX5_snapshot_32 : decode cX5_snapshot 32 = .ok (.goto 4, 3) := by decide +kernel
theorem dX5_snapshot_35 : decode cX5_snapshot 35 = .ok (.iconst 0, 1) := by decide +kernel
theorem dX5_snapshot_36 : decode cX5_snapshot 36 = .ok (.invokevirtual 91, 3) := by decide +kernel
theorem dX5_snapshot_39 : decode cX5_snapshot 39 = .ok (.ifCond .ne 5, 3) := by decide +kernel
theorem dX5_snapshot_42 : decode cX5_snapshot 42 = .ok (.iconst 0, 1) := by decide +kernel
theorem dX5_snapshot_43 : decode cX5_snapshot 43 = .ok (.ireturn, 1) := by decide +kernel
theorem dX5_snapshot_44 : decode cX5_snapshot 44 = .ok (.aload_n 0, 1) := by decide +kernel
theorem dX5_snapshot_45 : decode cX5_snapshot 45 = .ok (.getfield 63, 3) := by decide +kernel
theorem dX5_snapshot_48 : decode cX5_snapshot 48 = .ok (.aload_n 0, 1) := by decide +kernel
theorem dX5_snapshot_49 : decode cX5_snapshot 49 = .ok (.getfield 88, 3) := by decide +kernel
theorem dX5_snapshot_52 : decode cX5_snapshot 52 = .ok (.iconst 0, 1) := by decide +kernel
theorem dX5_snapshot_53 : decode cX5_snapshot 53 = .ok (.iastore, 1) := by decide +kernel
theorem dX5_snapshot_54 : decode cX5_snapshot 54 = .ok (.aload_n 0, 1) := by decide +kernel
theorem dX5_snapshot_55 : decode cX5_snapshot 55 = .ok (.getfield 69, 3) := by decide +kernel
theorem dX5_snapshot_58 : decode cX5_snapshot 58 = .ok (.aload_n 0, 1) := by decide +kernel
theorem dX5_snapshot_59 : decode cX5_snapshot 59 = .ok (.getfield 88, 3) := by decide +kernel
theorem dX5_snapshot_62 : decode cX5_snapshot 62 = .ok (.aload_n 0, 1) := by decide +kernel
theorem dX5_snapshot_63 : decode cX5_snapshot 63 = .ok (.getfield 69, 3) := by decide +kernel
theorem dX5_snapshot_66 : decode cX5_snapshot 66 = .ok (.iload_n 1, 1) := by decide +kernel
theorem dX5_snapshot_67 : decode cX5_snapshot 67 = .ok (.iaload, 1) := by decide +kernel
theorem dX5_snapshot_68 : decode cX5_snapshot 68 = .ok (.iastore, 1) := by decide +kernel
theorem dX5_snapshot_69 : decode cX5_snapshot 69 = .ok (.iconst 0, 1) := by decide +kernel
theorem dX5_snapshot_70 : decode cX5_snapshot 70 = .ok (.istore_n 2, 1) := by decide +kernel
theorem dX5_snapshot_71 : decode cX5_snapshot 71 = .ok (.iload_n 2, 1) := by decide +kernel
theorem dX5_snapshot_72 : decode cX5_snapshot 72 = .ok (.aload_n 0, 1) := by decide +kernel
theorem dX5_snapshot_73 : decode cX5_snapshot 73 = .ok (.getfield 69, 3) := by decide +kernel
theorem dX5_snapshot_76 : decode cX5_snapshot 76 = .ok (.iload_n 1, 1) := by decide +kernel
theorem dX5_snapshot_77 : decode cX5_snapshot 77 = .ok (.iaload, 1) := by decide +kernel
theorem dX5_snapshot_78 : decode cX5_snapshot 78 = .ok (.if_icmp .ge 34, 3) := by decide +kernel
theorem dX5_snapshot_81 : decode cX5_snapshot 81 = .ok (.aload_n 0, 1) := by decide +kernel
theorem dX5_snapshot_82 : decode cX5_snapshot 82 = .ok (.getfield 72, 3) := by decide +kernel
theorem dX5_snapshot_85 : decode cX5_snapshot 85 = .ok (.bipush 6, 2) := by decide +kernel
theorem dX5_snapshot_87 : decode cX5_snapshot 87 = .ok (.aload_n 0, 1) := by decide +kernel
theorem dX5_snapshot_88 : decode cX5_snapshot 88 = .ok (.getfield 88, 3) := by decide +kernel
theorem dX5_snapshot_91 : decode cX5_snapshot 91 = .ok (.imul, 1) := by decide +kernel
theorem dX5_snapshot_92 : decode cX5_snapshot 92 = .ok (.iload_n 2, 1) := by decide +kernel
theorem dX5_snapshot_93 : decode cX5_snapshot 93 = .ok (.iadd, 1) := by decide +kernel
theorem dX5_snapshot_94 : decode cX5_snapshot 94 = .ok (.aload_n 0, 1) := by decide +kernel
theorem dX5_snapshot_95 : decode cX5_snapshot 95 = .ok (.getfield 72, 3) := by decide +kernel
theorem dX5_snapshot_98 : decode cX5_snapshot 98 = .ok (.bipush 6, 2) := by decide +kernel
theorem dX5_snapshot_100 : decode cX5_snapshot 100 = .ok (.iload_n 1, 1) := by decide +kernel
theorem dX5_snapshot_101 : decode cX5_snapshot 101 = .ok (.imul, 1) := by decide +kernel
theorem dX5_snapshot_102 : decode cX5_snapshot 102 = .ok (.iload_n 2, 1) := by decide +kernel
theorem dX5_snapshot_103 : decode cX5_snapshot 103 = .ok (.iadd, 1) := by decide +kernel
theorem dX5_snapshot_104 : decode cX5_snapshot 104 = .ok (.iaload, 1) := by decide +kernel
theorem dX5_snapshot_105 : decode cX5_snapshot 105 = .ok (.iastore, 1) := by decide +kernel
theorem dX5_snapshot_106 : decode cX5_snapshot 106 = .ok (.iinc 2 1, 3) := by decide +kernel
theorem dX5_snapshot_109 : decode cX5_snapshot 109 = .ok (.goto (-38), 3) := by decide +kernel
theorem dX5_snapshot_112 : decode cX5_snapshot 112 = .ok (.aload_n 0, 1) := by decide +kernel
theorem dX5_snapshot_113 : decode cX5_snapshot 113 = .ok (.dup, 1) := by decide +kernel
theorem dX5_snapshot_114 : decode cX5_snapshot 114 = .ok (.getfield 88, 3) := by decide +kernel
theorem dX5_snapshot_117 : decode cX5_snapshot 117 = .ok (.iconst 1, 1) := by decide +kernel
theorem dX5_snapshot_118 : decode cX5_snapshot 118 = .ok (.iadd, 1) := by decide +kernel
theorem dX5_snapshot_119 : decode cX5_snapshot 119 = .ok (.putfield 88, 3) := by decide +kernel
theorem dX5_snapshot_122 : decode cX5_snapshot 122 = .ok (.aload_n 0, 1) := by decide +kernel
theorem dX5_snapshot_123 : decode cX5_snapshot 123 = .ok (.getfield 88, 3) := by decide +kernel
theorem dX5_snapshot_126 : decode cX5_snapshot 126 = .ok (.iconst 1, 1) := by decide +kernel
theorem dX5_snapshot_127 : decode cX5_snapshot 127 = .ok (.isub, 1) := by decide +kernel
theorem dX5_snapshot_128 : decode cX5_snapshot 128 = .ok (.ireturn, 1) := by decide +kernel
theorem dX5_remove_0 : decode cX5_remove 0 = .ok (.aload_n 0, 1) := by decide +kernel
theorem dX5_remove_1 : decode cX5_remove 1 = .ok (.aload_n 0, 1) := by decide +kernel
theorem dX5_remove_2 : decode cX5_remove 2 = .ok (.iload_n 1, 1) := by decide +kernel
theorem dX5_remove_3 : decode cX5_remove 3 = .ok (.invokevirtual 140, 3) := by decide +kernel
theorem dX5_remove_6 : decode cX5_remove 6 = .ok (.ifCond .ne 7, 3) := by decide +kernel
theorem dX5_remove_9 : decode cX5_remove 9 = .ok (.iconst 1, 1) := by decide +kernel
theorem dX5_remove_10 : decode cX5_remove 10 = .ok (.goto 17, 3) := by decide +kernel
theorem dX5_remove_13 : decode cX5_remove 13 = .ok (.aload_n 0, 1) := by decide +kernel
theorem dX5_remove_14 : decode cX5_remove 14 = .ok (.getfield 63, 3) := by decide +kernel
theorem dX5_remove_17 : decode cX5_remove 17 = .ok (.iload_n 1, 1) := by decide +kernel
theorem dX5_remove_18 : decode cX5_remove 18 = .ok (.iaload, 1) := by decide +kernel
theorem dX5_remove_19 : decode cX5_remove 19 = .ok (.ifCond .ne 7, 3) := by decide +kernel
theorem dX5_remove_22 : decode cX5_remove 22 = .ok (.iconst 0, 1) := by decide +kernel
theorem dX5_remove_23 : decode cX5_remove 23 = .ok (.goto 4, 3) := by decide +kernel
theorem dX5_remove_26 : decode cX5_remove 26 = .ok (.iconst 2, 1) := by decide +kernel
theorem dX5_remove_27 : decode cX5_remove 27 = .ok (.invokevirtual 91, 3) := by decide +kernel
theorem dX5_remove_30 : decode cX5_remove 30 = .ok (.ifCond .eq 20, 3) := by decide +kernel
theorem dX5_remove_33 : decode cX5_remove 33 = .ok (.aload_n 0, 1) := by decide +kernel
theorem dX5_remove_34 : decode cX5_remove 34 = .ok (.getfield 63, 3) := by decide +kernel
theorem dX5_remove_37 : decode cX5_remove 37 = .ok (.iload_n 1, 1) := by decide +kernel
theorem dX5_remove_38 : decode cX5_remove 38 = .ok (.iconst 1, 1) := by decide +kernel
theorem dX5_remove_39 : decode cX5_remove 39 = .ok (.iastore, 1) := by decide +kernel
theorem dX5_remove_40 : decode cX5_remove 40 = .ok (.aload_n 0, 1) := by decide +kernel
theorem dX5_remove_41 : decode cX5_remove 41 = .ok (.getfield 66, 3) := by decide +kernel
theorem dX5_remove_44 : decode cX5_remove 44 = .ok (.iload_n 1, 1) := by decide +kernel
theorem dX5_remove_45 : decode cX5_remove 45 = .ok (.aload_n 0, 1) := by decide +kernel
theorem dX5_remove_46 : decode cX5_remove 46 = .ok (.getfield 98, 3) := by decide +kernel
theorem dX5_remove_49 : decode cX5_remove 49 = .ok (.iastore, 1) := by decide +kernel
theorem dX5_remove_50 : decode cX5_remove 50 = .ok (.return_, 1) := by decide +kernel
theorem dX5_restore_0 : decode cX5_restore 0 = .ok (.aload_n 0, 1) := by decide +kernel
theorem dX5_restore_1 : decode cX5_restore 1 = .ok (.aload_n 0, 1) := by decide +kernel
theorem dX5_restore_2 : decode cX5_restore 2 = .ok (.iload_n 1, 1) := by decide +kernel
theorem dX5_restore_3 : decode cX5_restore 3 = .ok (.invokevirtual 140, 3) := by decide +kernel
theorem dX5_restore_6 : decode cX5_restore 6 = .ok (.ifCond .ne 7, 3) := by decide +kernel
theorem dX5_restore_9 : decode cX5_restore 9 = .ok (.iconst 1, 1) := by decide +kernel
theorem dX5_restore_10 : decode cX5_restore 10 = .ok (.goto 18, 3) := by decide +kernel
theorem dX5_restore_13 : decode cX5_restore 13 = .ok (.aload_n 0, 1) := by decide +kernel
theorem dX5_restore_14 : decode cX5_restore 14 = .ok (.getfield 63, 3) := by decide +kernel
theorem dX5_restore_17 : decode cX5_restore 17 = .ok (.iload_n 1, 1) := by decide +kernel
theorem dX5_restore_18 : decode cX5_restore 18 = .ok (.iaload, 1) := by decide +kernel
theorem dX5_restore_19 : decode cX5_restore 19 = .ok (.iconst 1, 1) := by decide +kernel
theorem dX5_restore_20 : decode cX5_restore 20 = .ok (.if_icmp .ne 7, 3) := by decide +kernel
theorem dX5_restore_23 : decode cX5_restore 23 = .ok (.iconst 0, 1) := by decide +kernel
theorem dX5_restore_24 : decode cX5_restore 24 = .ok (.goto 4, 3) := by decide +kernel
theorem dX5_restore_27 : decode cX5_restore 27 = .ok (.iconst 2, 1) := by decide +kernel
theorem dX5_restore_28 : decode cX5_restore 28 = .ok (.invokevirtual 91, 3) := by decide +kernel
theorem dX5_restore_31 : decode cX5_restore 31 = .ok (.ifCond .eq 10, 3) := by decide +kernel
theorem dX5_restore_34 : decode cX5_restore 34 = .ok (.aload_n 0, 1) := by decide +kernel
theorem dX5_restore_35 : decode cX5_restore 35 = .ok (.getfield 63, 3) := by decide +kernel
theorem dX5_restore_38 : decode cX5_restore 38 = .ok (.iload_n 1, 1) := by decide +kernel
theorem dX5_restore_39 : decode cX5_restore 39 = .ok (.iconst 0, 1) := by decide +kernel
theorem dX5_restore_40 : decode cX5_restore 40 = .ok (.iastore, 1) := by decide +kernel
theorem dX5_restore_41 : decode cX5_restore 41 = .ok (.return_, 1) := by decide +kernel
theorem dX5_hasLease_0 : decode cX5_hasLease 0 = .ok (.aload_n 0, 1) := by decide +kernel
theorem dX5_hasLease_1 : decode cX5_hasLease 1 = .ok (.getfield 36, 3) := by decide +kernel
theorem dX5_hasLease_4 : decode cX5_hasLease 4 = .ok (.iload_n 1, 1) := by decide +kernel
theorem dX5_hasLease_5 : decode cX5_hasLease 5 = .ok (.iaload, 1) := by decide +kernel
theorem dX5_hasLease_6 : decode cX5_hasLease 6 = .ok (.iconst (-1), 1) := by decide +kernel
theorem dX5_hasLease_7 : decode cX5_hasLease 7 = .ok (.if_icmp .eq 20, 3) := by decide +kernel
theorem dX5_hasLease_10 : decode cX5_hasLease 10 = .ok (.aload_n 0, 1) := by decide +kernel
theorem dX5_hasLease_11 : decode cX5_hasLease 11 = .ok (.getfield 98, 3) := by decide +kernel
theorem dX5_hasLease_14 : decode cX5_hasLease 14 = .ok (.aload_n 0, 1) := by decide +kernel
theorem dX5_hasLease_15 : decode cX5_hasLease 15 = .ok (.getfield 39, 3) := by decide +kernel
theorem dX5_hasLease_18 : decode cX5_hasLease 18 = .ok (.iload_n 1, 1) := by decide +kernel
theorem dX5_hasLease_19 : decode cX5_hasLease 19 = .ok (.iaload, 1) := by decide +kernel
theorem dX5_hasLease_20 : decode cX5_hasLease 20 = .ok (.if_icmp .ge 7, 3) := by decide +kernel
theorem dX5_hasLease_23 : decode cX5_hasLease 23 = .ok (.iconst 1, 1) := by decide +kernel
theorem dX5_hasLease_24 : decode cX5_hasLease 24 = .ok (.goto 4, 3) := by decide +kernel
theorem dX5_hasLease_27 : decode cX5_hasLease 27 = .ok (.iconst 0, 1) := by decide +kernel
theorem dX5_hasLease_28 : decode cX5_hasLease 28 = .ok (.ireturn, 1) := by decide +kernel
theorem dX5_firstUp_0 : decode cX5_firstUp 0 = .ok (.iconst 0, 1) := by decide +kernel
theorem dX5_firstUp_1 : decode cX5_firstUp 1 = .ok (.istore_n 2, 1) := by decide +kernel
theorem dX5_firstUp_2 : decode cX5_firstUp 2 = .ok (.iload_n 2, 1) := by decide +kernel
theorem dX5_firstUp_3 : decode cX5_firstUp 3 = .ok (.aload_n 0, 1) := by decide +kernel
theorem dX5_firstUp_4 : decode cX5_firstUp 4 = .ok (.getfield 45, 3) := by decide +kernel
theorem dX5_firstUp_7 : decode cX5_firstUp 7 = .ok (.iload_n 1, 1) := by decide +kernel
theorem dX5_firstUp_8 : decode cX5_firstUp 8 = .ok (.iaload, 1) := by decide +kernel
theorem dX5_firstUp_9 : decode cX5_firstUp 9 = .ok (.if_icmp .ge 40, 3) := by decide +kernel
theorem dX5_firstUp_12 : decode cX5_firstUp 12 = .ok (.aload_n 0, 1) := by decide +kernel
theorem dX5_firstUp_13 : decode cX5_firstUp 13 = .ok (.getfield 20, 3) := by decide +kernel
theorem dX5_firstUp_16 : decode cX5_firstUp 16 = .ok (.aload_n 0, 1) := by decide +kernel
theorem dX5_firstUp_17 : decode cX5_firstUp 17 = .ok (.getfield 48, 3) := by decide +kernel
theorem dX5_firstUp_20 : decode cX5_firstUp 20 = .ok (.bipush 8, 2) := by decide +kernel
theorem dX5_firstUp_22 : decode cX5_firstUp 22 = .ok (.iload_n 1, 1) := by decide +kernel
theorem dX5_firstUp_23 : decode cX5_firstUp 23 = .ok (.imul, 1) := by decide +kernel
theorem dX5_firstUp_24 : decode cX5_firstUp 24 = .ok (.iload_n 2, 1) := by decide +kernel
theorem dX5_firstUp_25 : decode cX5_firstUp 25 = .ok (.iadd, 1) := by decide +kernel
theorem dX5_firstUp_26 : decode cX5_firstUp 26 = .ok (.iaload, 1) := by decide +kernel
theorem dX5_firstUp_27 : decode cX5_firstUp 27 = .ok (.baload, 1) := by decide +kernel
theorem dX5_firstUp_28 : decode cX5_firstUp 28 = .ok (.ifCond .eq 15, 3) := by decide +kernel
theorem dX5_firstUp_31 : decode cX5_firstUp 31 = .ok (.aload_n 0, 1) := by decide +kernel
theorem dX5_firstUp_32 : decode cX5_firstUp 32 = .ok (.getfield 48, 3) := by decide +kernel
theorem dX5_firstUp_35 : decode cX5_firstUp 35 = .ok (.bipush 8, 2) := by decide +kernel
theorem dX5_firstUp_37 : decode cX5_firstUp 37 = .ok (.iload_n 1, 1) := by decide +kernel
theorem dX5_firstUp_38 : decode cX5_firstUp 38 = .ok (.imul, 1) := by decide +kernel
theorem dX5_firstUp_39 : decode cX5_firstUp 39 = .ok (.iload_n 2, 1) := by decide +kernel
theorem dX5_firstUp_40 : decode cX5_firstUp 40 = .ok (.iadd, 1) := by decide +kernel
theorem dX5_firstUp_41 : decode cX5_firstUp 41 = .ok (.iaload, 1) := by decide +kernel
theorem dX5_firstUp_42 : decode cX5_firstUp 42 = .ok (.ireturn, 1) := by decide +kernel
theorem dX5_firstUp_43 : decode cX5_firstUp 43 = .ok (.iinc 2 1, 3) := by decide +kernel
theorem dX5_firstUp_46 : decode cX5_firstUp 46 = .ok (.goto (-44), 3) := by decide +kernel
theorem dX5_firstUp_49 : decode cX5_firstUp 49 = .ok (.iconst (-1), 1) := by decide +kernel
theorem dX5_firstUp_50 : decode cX5_firstUp 50 = .ok (.ireturn, 1) := by decide +kernel
theorem dX5_isShared_0 : decode cX5_isShared 0 = .ok (.aload_n 0, 1) := by decide +kernel
theorem dX5_isShared_1 : decode cX5_isShared 1 = .ok (.iload_n 2, 1) := by decide +kernel
theorem dX5_isShared_2 : decode cX5_isShared 2 = .ok (.iload_n 1, 1) := by decide +kernel
theorem dX5_isShared_3 : decode cX5_isShared 3 = .ok (.invokevirtual 137, 3) := by decide +kernel
theorem dX5_isShared_6 : decode cX5_isShared 6 = .ok (.ifCond .le 7, 3) := by decide +kernel
theorem dX5_isShared_9 : decode cX5_isShared 9 = .ok (.iconst 1, 1) := by decide +kernel
theorem dX5_isShared_10 : decode cX5_isShared 10 = .ok (.goto 4, 3) := by decide +kernel
theorem dX5_isShared_13 : decode cX5_isShared 13 = .ok (.iconst 0, 1) := by decide +kernel
theorem dX5_isShared_14 : decode cX5_isShared 14 = .ok (.ireturn, 1) := by decide +kernel
theorem dX5_foundFor_0 : decode cX5_foundFor 0 = .ok (.aload_n 0, 1) := by decide +kernel
theorem dX5_foundFor_1 : decode cX5_foundFor 1 = .ok (.iload_n 1, 1) := by decide +kernel
theorem dX5_foundFor_2 : decode cX5_foundFor 2 = .ok (.iload_n 2, 1) := by decide +kernel
theorem dX5_foundFor_3 : decode cX5_foundFor 3 = .ok (.invokevirtual 143, 3) := by decide +kernel
theorem dX5_foundFor_6 : decode cX5_foundFor 6 = .ok (.ifCond .eq 12, 3) := by decide +kernel
theorem dX5_foundFor_9 : decode cX5_foundFor 9 = .ok (.aload_n 0, 1) := by decide +kernel
theorem dX5_foundFor_10 : decode cX5_foundFor 10 = .ok (.iload_n 2, 1) := by decide +kernel
theorem dX5_foundFor_11 : decode cX5_foundFor 11 = .ok (.iconst 0, 1) := by decide +kernel
theorem dX5_foundFor_12 : decode cX5_foundFor 12 = .ok (.invokevirtual 146, 3) := by decide +kernel
theorem dX5_foundFor_15 : decode cX5_foundFor 15 = .ok (.goto 39, 3) := by decide +kernel
theorem dX5_foundFor_18 : decode cX5_foundFor 18 = .ok (.aload_n 0, 1) := by decide +kernel
theorem dX5_foundFor_19 : decode cX5_foundFor 19 = .ok (.iload_n 2, 1) := by decide +kernel
theorem dX5_foundFor_20 : decode cX5_foundFor 20 = .ok (.invokevirtual 150, 3) := by decide +kernel
theorem dX5_foundFor_23 : decode cX5_foundFor 23 = .ok (.ifCond .eq 26, 3) := by decide +kernel
theorem dX5_foundFor_26 : decode cX5_foundFor 26 = .ok (.aload_n 0, 1) := by decide +kernel
theorem dX5_foundFor_27 : decode cX5_foundFor 27 = .ok (.getfield 20, 3) := by decide +kernel
theorem dX5_foundFor_30 : decode cX5_foundFor 30 = .ok (.aload_n 0, 1) := by decide +kernel
theorem dX5_foundFor_31 : decode cX5_foundFor 31 = .ok (.getfield 36, 3) := by decide +kernel
theorem dX5_foundFor_34 : decode cX5_foundFor 34 = .ok (.iload_n 2, 1) := by decide +kernel
theorem dX5_foundFor_35 : decode cX5_foundFor 35 = .ok (.iaload, 1) := by decide +kernel
theorem dX5_foundFor_36 : decode cX5_foundFor 36 = .ok (.baload, 1) := by decide +kernel
theorem dX5_foundFor_37 : decode cX5_foundFor 37 = .ok (.ifCond .eq 12, 3) := by decide +kernel
theorem dX5_foundFor_40 : decode cX5_foundFor 40 = .ok (.aload_n 0, 1) := by decide +kernel
theorem dX5_foundFor_41 : decode cX5_foundFor 41 = .ok (.getfield 36, 3) := by decide +kernel
theorem dX5_foundFor_44 : decode cX5_foundFor 44 = .ok (.iload_n 2, 1) := by decide +kernel
theorem dX5_foundFor_45 : decode cX5_foundFor 45 = .ok (.iaload, 1) := by decide +kernel
theorem dX5_foundFor_46 : decode cX5_foundFor 46 = .ok (.goto 8, 3) := by decide +kernel
theorem dX5_foundFor_49 : decode cX5_foundFor 49 = .ok (.aload_n 0, 1) := by decide +kernel
theorem dX5_foundFor_50 : decode cX5_foundFor 50 = .ok (.iload_n 2, 1) := by decide +kernel
theorem dX5_foundFor_51 : decode cX5_foundFor 51 = .ok (.invokevirtual 153, 3) := by decide +kernel
theorem dX5_foundFor_54 : decode cX5_foundFor 54 = .ok (.ireturn, 1) := by decide +kernel
theorem dX5_canPart_0 : decode cX5_canPart 0 = .ok (.iconst 0, 1) := by decide +kernel
theorem dX5_canPart_1 : decode cX5_canPart 1 = .ok (.istore_n 2, 1) := by decide +kernel
theorem dX5_canPart_2 : decode cX5_canPart 2 = .ok (.iconst 0, 1) := by decide +kernel
theorem dX5_canPart_3 : decode cX5_canPart 3 = .ok (.istore_n 3, 1) := by decide +kernel
theorem dX5_canPart_4 : decode cX5_canPart 4 = .ok (.iload_n 3, 1) := by decide +kernel
theorem dX5_canPart_5 : decode cX5_canPart 5 = .ok (.aload_n 0, 1) := by decide +kernel
theorem dX5_canPart_6 : decode cX5_canPart 6 = .ok (.getfield 45, 3) := by decide +kernel
theorem dX5_canPart_9 : decode cX5_canPart 9 = .ok (.iload_n 1, 1) := by decide +kernel
theorem dX5_canPart_10 : decode cX5_canPart 10 = .ok (.iaload, 1) := by decide +kernel
theorem dX5_canPart_11 : decode cX5_canPart 11 = .ok (.if_icmp .ge 58, 3) := by decide +kernel
theorem dX5_canPart_14 : decode cX5_canPart 14 = .ok (.aload_n 0, 1) := by decide +kernel
theorem dX5_canPart_15 : decode cX5_canPart 15 = .ok (.getfield 48, 3) := by decide +kernel
theorem dX5_canPart_18 : decode cX5_canPart 18 = .ok (.bipush 8, 2) := by decide +kernel
theorem dX5_canPart_20 : decode cX5_canPart 20 = .ok (.iload_n 1, 1) := by decide +kernel
theorem dX5_canPart_21 : decode cX5_canPart 21 = .ok (.imul, 1) := by decide +kernel
theorem dX5_canPart_22 : decode cX5_canPart 22 = .ok (.iload_n 3, 1) := by decide +kernel
theorem dX5_canPart_23 : decode cX5_canPart 23 = .ok (.iadd, 1) := by decide +kernel
theorem dX5_canPart_24 : decode cX5_canPart 24 = .ok (.iaload, 1) := by decide +kernel
theorem dX5_canPart_25 : decode cX5_canPart 25 = .ok (.istore 4, 2) := by decide +kernel
theorem dX5_canPart_27 : decode cX5_canPart 27 = .ok (.iload_n 2, 1) := by decide +kernel
theorem dX5_canPart_28 : decode cX5_canPart 28 = .ok (.ifCond .ne 29, 3) := by decide +kernel
theorem dX5_canPart_31 : decode cX5_canPart 31 = .ok (.aload_n 0, 1) := by decide +kernel
theorem dX5_canPart_32 : decode cX5_canPart 32 = .ok (.iload_n 1, 1) := by decide +kernel
theorem dX5_canPart_33 : decode cX5_canPart 33 = .ok (.iload 4, 2) := by decide +kernel
theorem dX5_canPart_35 : decode cX5_canPart 35 = .ok (.invokevirtual 123, 3) := by decide +kernel
theorem dX5_canPart_38 : decode cX5_canPart 38 = .ok (.ifCond .eq 23, 3) := by decide +kernel
theorem dX5_canPart_41 : decode cX5_canPart 41 = .ok (.aload_n 0, 1) := by decide +kernel
theorem dX5_canPart_42 : decode cX5_canPart 42 = .ok (.iload 4, 2) := by decide +kernel
theorem dX5_canPart_44 : decode cX5_canPart 44 = .ok (.invokevirtual 127, 3) := by decide +kernel
theorem dX5_canPart_47 : decode cX5_canPart 47 = .ok (.aload_n 0, 1) := by decide +kernel
theorem dX5_canPart_48 : decode cX5_canPart 48 = .ok (.getfield 17, 3) := by decide +kernel
theorem dX5_canPart_51 : decode cX5_canPart 51 = .ok (.iload 4, 2) := by decide +kernel
theorem dX5_canPart_53 : decode cX5_canPart 53 = .ok (.iaload, 1) := by decide +kernel
theorem dX5_canPart_54 : decode cX5_canPart 54 = .ok (.if_icmp .ge 7, 3) := by decide +kernel
theorem dX5_canPart_57 : decode cX5_canPart 57 = .ok (.iconst 1, 1) := by decide +kernel
theorem dX5_canPart_58 : decode cX5_canPart 58 = .ok (.goto 4, 3) := by decide +kernel
theorem dX5_canPart_61 : decode cX5_canPart 61 = .ok (.iconst 0, 1) := by decide +kernel
theorem dX5_canPart_62 : decode cX5_canPart 62 = .ok (.istore_n 2, 1) := by decide +kernel
theorem dX5_canPart_63 : decode cX5_canPart 63 = .ok (.iinc 3 1, 3) := by decide +kernel
theorem dX5_canPart_66 : decode cX5_canPart 66 = .ok (.goto (-62), 3) := by decide +kernel
theorem dX5_canPart_69 : decode cX5_canPart 69 = .ok (.iload_n 2, 1) := by decide +kernel
theorem dX5_canPart_70 : decode cX5_canPart 70 = .ok (.ifCond .eq 16, 3) := by decide +kernel
theorem dX5_canPart_73 : decode cX5_canPart 73 = .ok (.aload_n 0, 1) := by decide +kernel
theorem dX5_canPart_74 : decode cX5_canPart 74 = .ok (.getfield 85, 3) := by decide +kernel
theorem dX5_canPart_77 : decode cX5_canPart 77 = .ok (.bipush 60, 2) := by decide +kernel
theorem dX5_canPart_79 : decode cX5_canPart 79 = .ok (.if_icmp .ge 7, 3) := by decide +kernel
theorem dX5_canPart_82 : decode cX5_canPart 82 = .ok (.iconst 1, 1) := by decide +kernel
theorem dX5_canPart_83 : decode cX5_canPart 83 = .ok (.goto 4, 3) := by decide +kernel
theorem dX5_canPart_86 : decode cX5_canPart 86 = .ok (.iconst 0, 1) := by decide +kernel
theorem dX5_canPart_87 : decode cX5_canPart 87 = .ok (.ireturn, 1) := by decide +kernel
theorem dX5_canWrite_0 : decode cX5_canWrite 0 = .ok (.aload_n 0, 1) := by decide +kernel
theorem dX5_canWrite_1 : decode cX5_canWrite 1 = .ok (.iload_n 1, 1) := by decide +kernel
theorem dX5_canWrite_2 : decode cX5_canWrite 2 = .ok (.iload_n 2, 1) := by decide +kernel
theorem dX5_canWrite_3 : decode cX5_canWrite 3 = .ok (.invokevirtual 156, 3) := by decide +kernel
theorem dX5_canWrite_6 : decode cX5_canWrite 6 = .ok (.iconst (-1), 1) := by decide +kernel
theorem dX5_canWrite_7 : decode cX5_canWrite 7 = .ok (.if_icmp .eq 24, 3) := by decide +kernel
theorem dX5_canWrite_10 : decode cX5_canWrite 10 = .ok (.aload_n 0, 1) := by decide +kernel
theorem dX5_canWrite_11 : decode cX5_canWrite 11 = .ok (.iload_n 1, 1) := by decide +kernel
theorem dX5_canWrite_12 : decode cX5_canWrite 12 = .ok (.iload_n 2, 1) := by decide +kernel
theorem dX5_canWrite_13 : decode cX5_canWrite 13 = .ok (.invokevirtual 143, 3) := by decide +kernel
theorem dX5_canWrite_16 : decode cX5_canWrite 16 = .ok (.ifCond .eq 11, 3) := by decide +kernel
theorem dX5_canWrite_19 : decode cX5_canWrite 19 = .ok (.aload_n 0, 1) := by decide +kernel
theorem dX5_canWrite_20 : decode cX5_canWrite 20 = .ok (.iload_n 2, 1) := by decide +kernel
theorem dX5_canWrite_21 : decode cX5_canWrite 21 = .ok (.invokevirtual 159, 3) := by decide +kernel
theorem dX5_canWrite_24 : decode cX5_canWrite 24 = .ok (.ifCond .eq 7, 3) := by decide +kernel
theorem dX5_canWrite_27 : decode cX5_canWrite 27 = .ok (.iconst 1, 1) := by decide +kernel
theorem dX5_canWrite_28 : decode cX5_canWrite 28 = .ok (.goto 4, 3) := by decide +kernel
theorem dX5_canWrite_31 : decode cX5_canWrite 31 = .ok (.iconst 0, 1) := by decide +kernel
theorem dX5_canWrite_32 : decode cX5_canWrite 32 = .ok (.ireturn, 1) := by decide +kernel
theorem dX5_newPiece_0 : decode cX5_newPiece 0 = .ok (.aload_n 0, 1) := by decide +kernel
theorem dX5_newPiece_1 : decode cX5_newPiece 1 = .ok (.getfield 85, 3) := by decide +kernel
theorem dX5_newPiece_4 : decode cX5_newPiece 4 = .ok (.istore_n 1, 1) := by decide +kernel
theorem dX5_newPiece_5 : decode cX5_newPiece 5 = .ok (.aload_n 0, 1) := by decide +kernel
theorem dX5_newPiece_6 : decode cX5_newPiece 6 = .ok (.dup, 1) := by decide +kernel
theorem dX5_newPiece_7 : decode cX5_newPiece 7 = .ok (.getfield 85, 3) := by decide +kernel
theorem dX5_newPiece_10 : decode cX5_newPiece 10 = .ok (.iconst 1, 1) := by decide +kernel
theorem dX5_newPiece_11 : decode cX5_newPiece 11 = .ok (.iadd, 1) := by decide +kernel
theorem dX5_newPiece_12 : decode cX5_newPiece 12 = .ok (.putfield 85, 3) := by decide +kernel
theorem dX5_newPiece_15 : decode cX5_newPiece 15 = .ok (.aload_n 0, 1) := by decide +kernel
theorem dX5_newPiece_16 : decode cX5_newPiece 16 = .ok (.getfield 33, 3) := by decide +kernel
theorem dX5_newPiece_19 : decode cX5_newPiece 19 = .ok (.iload_n 1, 1) := by decide +kernel
theorem dX5_newPiece_20 : decode cX5_newPiece 20 = .ok (.iconst 1, 1) := by decide +kernel
theorem dX5_newPiece_21 : decode cX5_newPiece 21 = .ok (.iastore, 1) := by decide +kernel
theorem dX5_newPiece_22 : decode cX5_newPiece 22 = .ok (.aload_n 0, 1) := by decide +kernel
theorem dX5_newPiece_23 : decode cX5_newPiece 23 = .ok (.iload_n 1, 1) := by decide +kernel
theorem dX5_newPiece_24 : decode cX5_newPiece 24 = .ok (.invokevirtual 119, 3) := by decide +kernel
theorem dX5_newPiece_27 : decode cX5_newPiece 27 = .ok (.aload_n 0, 1) := by decide +kernel
theorem dX5_newPiece_28 : decode cX5_newPiece 28 = .ok (.getfield 45, 3) := by decide +kernel
theorem dX5_newPiece_31 : decode cX5_newPiece 31 = .ok (.iload_n 1, 1) := by decide +kernel
theorem dX5_newPiece_32 : decode cX5_newPiece 32 = .ok (.iconst 0, 1) := by decide +kernel
theorem dX5_newPiece_33 : decode cX5_newPiece 33 = .ok (.iastore, 1) := by decide +kernel
theorem dX5_newPiece_34 : decode cX5_newPiece 34 = .ok (.iload_n 1, 1) := by decide +kernel
theorem dX5_newPiece_35 : decode cX5_newPiece 35 = .ok (.ireturn, 1) := by decide +kernel
theorem dX5_parts_0 : decode cX5_parts 0 = .ok (.aload_n 0, 1) := by decide +kernel
theorem dX5_parts_1 : decode cX5_parts 1 = .ok (.getfield 72, 3) := by decide +kernel
theorem dX5_parts_4 : decode cX5_parts 4 = .ok (.bipush 6, 2) := by decide +kernel
theorem dX5_parts_6 : decode cX5_parts 6 = .ok (.iload_n 1, 1) := by decide +kernel
theorem dX5_parts_7 : decode cX5_parts 7 = .ok (.imul, 1) := by decide +kernel
theorem dX5_parts_8 : decode cX5_parts 8 = .ok (.iload_n 2, 1) := by decide +kernel
theorem dX5_parts_9 : decode cX5_parts 9 = .ok (.iadd, 1) := by decide +kernel
theorem dX5_parts_10 : decode cX5_parts 10 = .ok (.iaload, 1) := by decide +kernel
theorem dX5_parts_11 : decode cX5_parts 11 = .ok (.istore_n 3, 1) := by decide +kernel
theorem dX5_parts_12 : decode cX5_parts 12 = .ok (.aload_n 0, 1) := by decide +kernel
theorem dX5_parts_13 : decode cX5_parts 13 = .ok (.iload_n 3, 1) := by decide +kernel
theorem dX5_parts_14 : decode cX5_parts 14 = .ok (.iconst 0, 1) := by decide +kernel
theorem dX5_parts_15 : decode cX5_parts 15 = .ok (.invokevirtual 146, 3) := by decide +kernel
theorem dX5_parts_18 : decode cX5_parts 18 = .ok (.istore 4, 2) := by decide +kernel
theorem dX5_parts_20 : decode cX5_parts 20 = .ok (.aload_n 0, 1) := by decide +kernel
theorem dX5_parts_21 : decode cX5_parts 21 = .ok (.invokevirtual 162, 3) := by decide +kernel
