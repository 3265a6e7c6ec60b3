theorem dX4_partPiece_11 : decode cX4_partPiece 11 = .ok (.aload 4, 2) := by decide +kernel
theorem dX4_partPiece_13 : decode cX4_partPiece 13 = .ok (.ifnonnull 7, 3) := by decide +kernel
theorem dX4_partPiece_16 : decode cX4_partPiece 16 = .ok (.aconst_null, 1) := by decide +kernel
theorem dX4_partPiece_17 : decode cX4_partPiece 17 = .ok (.goto 9, 3) := by decide +kernel
theorem dX4_partPiece_20 : decode cX4_partPiece 20 = .ok (.aload 4, 2) := by decide +kernel
theorem dX4_partPiece_22 : decode cX4_partPiece 22 = .ok (.aload_n 3, 1) := by decide +kernel
theorem dX4_partPiece_23 : decode cX4_partPiece 23 = .ok (.invokevirtual 82, 3) := by decide +kernel
theorem dX4_partPiece_26 : decode cX4_partPiece 26 = .ok (.astore 5, 2) := by decide +kernel
theorem dX4_partPiece_28 : decode cX4_partPiece 28 = .ok (.aload 5, 2) := by decide +kernel
theorem dX4_partPiece_30 : decode cX4_partPiece 30 = .ok (.ifnull 10, 3) := by decide +kernel
theorem dX4_partPiece_33 : decode cX4_partPiece 33 = .ok (.aload_n 3, 1) := by decide +kernel
theorem dX4_partPiece_34 : decode cX4_partPiece 34 = .ok (.invokestatic 332, 3) := by decide +kernel
theorem dX4_partPiece_37 : decode cX4_partPiece 37 = .ok (.ifCond .ne 14, 3) := by decide +kernel
theorem dX4_partPiece_40 : decode cX4_partPiece 40 = .ok (.new 48, 3) := by decide +kernel
theorem dX4_partPiece_43 : decode cX4_partPiece 43 = .ok (.dup, 1) := by decide +kernel
theorem dX4_partPiece_44 : decode cX4_partPiece 44 = .ok (.ldc_w 311, 3) := by decide +kernel
theorem dX4_partPiece_47 : decode cX4_partPiece 47 = .ok (.invokespecial 52, 3) := by decide +kernel
theorem dX4_partPiece_50 : decode cX4_partPiece 50 = .ok (.athrow, 1) := by decide +kernel
theorem dX4_partPiece_51 : decode cX4_partPiece 51 = .ok (.new 131, 3) := by decide +kernel
theorem dX4_partPiece_54 : decode cX4_partPiece 54 = .ok (.dup, 1) := by decide +kernel
theorem dX4_partPiece_55 : decode cX4_partPiece 55 = .ok (.aload_n 0, 1) := by decide +kernel
theorem dX4_partPiece_56 : decode cX4_partPiece 56 = .ok (.getfield 16, 3) := by decide +kernel
theorem dX4_partPiece_59 : decode cX4_partPiece 59 = .ok (.invokevirtual 44, 3) := by decide +kernel
theorem dX4_partPiece_62 : decode cX4_partPiece 62 = .ok (.invokespecial 307, 3) := by decide +kernel
theorem dX4_partPiece_65 : decode cX4_partPiece 65 = .ok (.astore 6, 2) := by decide +kernel
theorem dX4_partPiece_67 : decode cX4_partPiece 67 = .ok (.aload_n 0, 1) := by decide +kernel
theorem dX4_partPiece_68 : decode cX4_partPiece 68 = .ok (.getfield 16, 3) := by decide +kernel
theorem dX4_partPiece_71 : decode cX4_partPiece 71 = .ok (.aload 6, 2) := by decide +kernel
theorem dX4_partPiece_73 : decode cX4_partPiece 73 = .ok (.invokevirtual 58, 3) := by decide +kernel
theorem dX4_partPiece_76 : decode cX4_partPiece 76 = .ok (.pop, 1) := by decide +kernel
theorem dX4_partPiece_77 : decode cX4_partPiece 77 = .ok (.iconst 0, 1) := by decide +kernel
theorem dX4_partPiece_78 : decode cX4_partPiece 78 = .ok (.istore 7, 2) := by decide +kernel
theorem dX4_partPiece_80 : decode cX4_partPiece 80 = .ok (.iload 7, 2) := by decide +kernel
theorem dX4_partPiece_82 : decode cX4_partPiece 82 = .ok (.aload_n 3, 1) := by decide +kernel
theorem dX4_partPiece_83 : decode cX4_partPiece 83 = .ok (.getfield 184, 3) := by decide +kernel
theorem dX4_partPiece_86 : decode cX4_partPiece 86 = .ok (.invokevirtual 44, 3) := by decide +kernel
theorem dX4_partPiece_89 : decode cX4_partPiece 89 = .ok (.if_icmp .ge 49, 3) := by decide +kernel
theorem dX4_partPiece_92 : decode cX4_partPiece 92 = .ok (.aload_n 3, 1) := by decide +kernel
theorem dX4_partPiece_93 : decode cX4_partPiece 93 = .ok (.getfield 184, 3) := by decide +kernel
theorem dX4_partPiece_96 : decode cX4_partPiece 96 = .ok (.iload 7, 2) := by decide +kernel
theorem dX4_partPiece_98 : decode cX4_partPiece 98 = .ok (.invokevirtual 127, 3) := by decide +kernel
theorem dX4_partPiece_101 : decode cX4_partPiece 101 = .ok (.checkcast 53, 3) := by decide +kernel
theorem dX4_partPiece_104 : decode cX4_partPiece 104 = .ok (.astore 8, 2) := by decide +kernel
theorem dX4_partPiece_106 : decode cX4_partPiece 106 = .ok (.aload 8, 2) := by decide +kernel
theorem dX4_partPiece_108 : decode cX4_partPiece 108 = .ok (.aload_n 3, 1) := by decide +kernel
theorem dX4_partPiece_109 : decode cX4_partPiece 109 = .ok (.invokestatic 257, 3) := by decide +kernel
theorem dX4_partPiece_112 : decode cX4_partPiece 112 = .ok (.ifCond .eq 20, 3) := by decide +kernel
theorem dX4_partPiece_115 : decode cX4_partPiece 115 = .ok (.aload 8, 2) := by decide +kernel
theorem dX4_partPiece_117 : decode cX4_partPiece 117 = .ok (.invokevirtual 261, 3) := by decide +kernel
theorem dX4_partPiece_120 : decode cX4_partPiece 120 = .ok (.ifCond .eq 12, 3) := by decide +kernel
theorem dX4_partPiece_123 : decode cX4_partPiece 123 = .ok (.aload 8, 2) := by decide +kernel
theorem dX4_partPiece_125 : decode cX4_partPiece 125 = .ok (.aload 6, 2) := by decide +kernel
theorem dX4_partPiece_127 : decode cX4_partPiece 127 = .ok (.aload 5, 2) := by decide +kernel
theorem dX4_partPiece_129 : decode cX4_partPiece 129 = .ok (.invokestatic 313, 3) := by decide +kernel
theorem dX4_partPiece_132 : decode cX4_partPiece 132 = .ok (.iinc 7 1, 3) := by decide +kernel
theorem dX4_partPiece_135 : decode cX4_partPiece 135 = .ok (.goto (-55), 3) := by decide +kernel
theorem dX4_partPiece_138 : decode cX4_partPiece 138 = .ok (.aload_n 3, 1) := by decide +kernel
theorem dX4_partPiece_139 : decode cX4_partPiece 139 = .ok (.dup, 1) := by decide +kernel
theorem dX4_partPiece_140 : decode cX4_partPiece 140 = .ok (.getfield 133, 3) := by decide +kernel
theorem dX4_partPiece_143 : decode cX4_partPiece 143 = .ok (.iconst 1, 1) := by decide +kernel
theorem dX4_partPiece_144 : decode cX4_partPiece 144 = .ok (.isub, 1) := by decide +kernel
theorem dX4_partPiece_145 : decode cX4_partPiece 145 = .ok (.putfield 133, 3) := by decide +kernel
theorem dX4_partPiece_148 : decode cX4_partPiece 148 = .ok (.aload_n 1, 1) := by decide +kernel
theorem dX4_partPiece_149 : decode cX4_partPiece 149 = .ok (.getfield 124, 3) := by decide +kernel
theorem dX4_partPiece_152 : decode cX4_partPiece 152 = .ok (.iload_n 2, 1) := by decide +kernel
theorem dX4_partPiece_153 : decode cX4_partPiece 153 = .ok (.aload 6, 2) := by decide +kernel
theorem dX4_partPiece_155 : decode cX4_partPiece 155 = .ok (.invokevirtual 335, 3) := by decide +kernel
theorem dX4_partPiece_158 : decode cX4_partPiece 158 = .ok (.pop, 1) := by decide +kernel
theorem dX4_partPiece_159 : decode cX4_partPiece 159 = .ok (.aload 6, 2) := by decide +kernel
theorem dX4_partPiece_161 : decode cX4_partPiece 161 = .ok (.areturn, 1) := by decide +kernel
theorem dX4_hasGoodHolderWithRoom_0 : decode cX4_hasGoodHolderWithRoom 0 = .ok (.iconst 0, 1) := by decide +kernel
theorem dX4_hasGoodHolderWithRoom_1 : decode cX4_hasGoodHolderWithRoom 1 = .ok (.istore_n 1, 1) := by decide +kernel
theorem dX4_hasGoodHolderWithRoom_2 : decode cX4_hasGoodHolderWithRoom 2 = .ok (.iload_n 1, 1) := by decide +kernel
theorem dX4_hasGoodHolderWithRoom_3 : decode cX4_hasGoodHolderWithRoom 3 = .ok (.aload_n 0, 1) := by decide +kernel
theorem dX4_hasGoodHolderWithRoom_4 : decode cX4_hasGoodHolderWithRoom 4 = .ok (.getfield 184, 3) := by decide +kernel
theorem dX4_hasGoodHolderWithRoom_7 : decode cX4_hasGoodHolderWithRoom 7 = .ok (.invokevirtual 44, 3) := by decide +kernel
theorem dX4_hasGoodHolderWithRoom_10 : decode cX4_hasGoodHolderWithRoom 10 = .ok (.if_icmp .ge 38, 3) := by decide +kernel
theorem dX4_hasGoodHolderWithRoom_13 : decode cX4_hasGoodHolderWithRoom 13 = .ok (.aload_n 0, 1) := by decide +kernel
theorem dX4_hasGoodHolderWithRoom_14 : decode cX4_hasGoodHolderWithRoom 14 = .ok (.getfield 184, 3) := by decide +kernel
theorem dX4_hasGoodHolderWithRoom_17 : decode cX4_hasGoodHolderWithRoom 17 = .ok (.iload_n 1, 1) := by decide +kernel
theorem dX4_hasGoodHolderWithRoom_18 : decode cX4_hasGoodHolderWithRoom 18 = .ok (.invokevirtual 127, 3) := by decide +kernel
theorem dX4_hasGoodHolderWithRoom_21 : decode cX4_hasGoodHolderWithRoom 21 = .ok (.checkcast 53, 3) := by decide +kernel
theorem dX4_hasGoodHolderWithRoom_24 : decode cX4_hasGoodHolderWithRoom 24 = .ok (.astore_n 2, 1) := by decide +kernel
theorem dX4_hasGoodHolderWithRoom_25 : decode cX4_hasGoodHolderWithRoom 25 = .ok (.aload_n 2, 1) := by decide +kernel
theorem dX4_hasGoodHolderWithRoom_26 : decode cX4_hasGoodHolderWithRoom 26 = .ok (.aload_n 0, 1) := by decide +kernel
theorem dX4_hasGoodHolderWithRoom_27 : decode cX4_hasGoodHolderWithRoom 27 = .ok (.invokestatic 257, 3) := by decide +kernel
theorem dX4_hasGoodHolderWithRoom_30 : decode cX4_hasGoodHolderWithRoom 30 = .ok (.ifCond .eq 12, 3) := by decide +kernel
theorem dX4_hasGoodHolderWithRoom_33 : decode cX4_hasGoodHolderWithRoom 33 = .ok (.aload_n 2, 1) := by decide +kernel
theorem dX4_hasGoodHolderWithRoom_34 : decode cX4_hasGoodHolderWithRoom 34 = .ok (.invokevirtual 261, 3) := by decide +kernel
theorem dX4_hasGoodHolderWithRoom_37 : decode cX4_hasGoodHolderWithRoom 37 = .ok (.ifCond .eq 5, 3) := by decide +kernel
theorem dX4_hasGoodHolderWithRoom_40 : decode cX4_hasGoodHolderWithRoom 40 = .ok (.iconst 1, 1) := by decide +kernel
theorem dX4_hasGoodHolderWithRoom_41 : decode cX4_hasGoodHolderWithRoom 41 = .ok (.ireturn, 1) := by decide +kernel
theorem dX4_hasGoodHolderWithRoom_42 : decode cX4_hasGoodHolderWithRoom 42 = .ok (.iinc 1 1, 3) := by decide +kernel
theorem dX4_hasGoodHolderWithRoom_45 : decode cX4_hasGoodHolderWithRoom 45 = .ok (.goto (-43), 3) := by decide +kernel
theorem dX4_hasGoodHolderWithRoom_48 : decode cX4_hasGoodHolderWithRoom 48 = .ok (.iconst 0, 1) := by decide +kernel
theorem dX4_hasGoodHolderWithRoom_49 : decode cX4_hasGoodHolderWithRoom 49 = .ok (.ireturn, 1) := by decide +kernel
theorem dX4_grantLease_0 : decode cX4_grantLease 0 = .ok (.aload_n 1, 1) := by decide +kernel
theorem dX4_grantLease_1 : decode cX4_grantLease 1 = .ok (.invokestatic 296, 3) := by decide +kernel
theorem dX4_grantLease_4 : decode cX4_grantLease 4 = .ok (.astore_n 2, 1) := by decide +kernel
theorem dX4_grantLease_5 : decode cX4_grantLease 5 = .ok (.aload_n 2, 1) := by decide +kernel
theorem dX4_grantLease_6 : decode cX4_grantLease 6 = .ok (.ifnonnull 14, 3) := by decide +kernel
theorem dX4_grantLease_9 : decode cX4_grantLease 9 = .ok (.new 48, 3) := by decide +kernel
theorem dX4_grantLease_12 : decode cX4_grantLease 12 = .ok (.dup, 1) := by decide +kernel
theorem dX4_grantLease_13 : decode cX4_grantLease 13 = .ok (.ldc_w 300, 3) := by decide +kernel
theorem dX4_grantLease_16 : decode cX4_grantLease 16 = .ok (.invokespecial 52, 3) := by decide +kernel
theorem dX4_grantLease_19 : decode cX4_grantLease 19 = .ok (.athrow, 1) := by decide +kernel
theorem dX4_grantLease_20 : decode cX4_grantLease 20 = .ok (.aload_n 1, 1) := by decide +kernel
theorem dX4_grantLease_21 : decode cX4_grantLease 21 = .ok (.getfield 184, 3) := by decide +kernel
theorem dX4_grantLease_24 : decode cX4_grantLease 24 = .ok (.invokevirtual 44, 3) := by decide +kernel
theorem dX4_grantLease_27 : decode cX4_grantLease 27 = .ok (.iconst 1, 1) := by decide +kernel
theorem dX4_grantLease_28 : decode cX4_grantLease 28 = .ok (.isub, 1) := by decide +kernel
theorem dX4_grantLease_29 : decode cX4_grantLease 29 = .ok (.istore_n 3, 1) := by decide +kernel
theorem dX4_grantLease_30 : decode cX4_grantLease 30 = .ok (.iload_n 3, 1) := by decide +kernel
theorem dX4_grantLease_31 : decode cX4_grantLease 31 = .ok (.ifCond .lt 35, 3) := by decide +kernel
theorem dX4_grantLease_34 : decode cX4_grantLease 34 = .ok (.aload_n 1, 1) := by decide +kernel
theorem dX4_grantLease_35 : decode cX4_grantLease 35 = .ok (.getfield 184, 3) := by decide +kernel
theorem dX4_grantLease_38 : decode cX4_grantLease 38 = .ok (.iload_n 3, 1) := by decide +kernel
theorem dX4_grantLease_39 : decode cX4_grantLease 39 = .ok (.invokevirtual 127, 3) := by decide +kernel
theorem dX4_grantLease_42 : decode cX4_grantLease 42 = .ok (.checkcast 53, 3) := by decide +kernel
theorem dX4_grantLease_45 : decode cX4_grantLease 45 = .ok (.getfield 69, 3) := by decide +kernel
theorem dX4_grantLease_48 : decode cX4_grantLease 48 = .ok (.ifCond .ne 12, 3) := by decide +kernel
theorem dX4_grantLease_51 : decode cX4_grantLease 51 = .ok (.aload_n 1, 1) := by decide +kernel
theorem dX4_grantLease_52 : decode cX4_grantLease 52 = .ok (.getfield 184, 3) := by decide +kernel
theorem dX4_grantLease_55 : decode cX4_grantLease 55 = .ok (.iload_n 3, 1) := by decide +kernel
theorem dX4_grantLease_56 : decode cX4_grantLease 56 = .ok (.invokevirtual 339, 3) := by decide +kernel
theorem dX4_grantLease_59 : decode cX4_grantLease 59 = .ok (.pop, 1) := by decide +kernel
theorem dX4_grantLease_60 : decode cX4_grantLease 60 = .ok (.iinc 3 (-1), 3) := by decide +kernel
theorem dX4_grantLease_63 : decode cX4_grantLease 63 = .ok (.goto (-33), 3) := by decide +kernel
theorem dX4_grantLease_66 : decode cX4_grantLease 66 = .ok (.aload_n 1, 1) := by decide +kernel
theorem dX4_grantLease_67 : decode cX4_grantLease 67 = .ok (.dup, 1) := by decide +kernel
theorem dX4_grantLease_68 : decode cX4_grantLease 68 = .ok (.getfield 181, 3) := by decide +kernel
theorem dX4_grantLease_71 : decode cX4_grantLease 71 = .ok (.iconst 1, 1) := by decide +kernel
theorem dX4_grantLease_72 : decode cX4_grantLease 72 = .ok (.iadd, 1) := by decide +kernel
theorem dX4_grantLease_73 : decode cX4_grantLease 73 = .ok (.putfield 181, 3) := by decide +kernel
theorem dX4_grantLease_76 : decode cX4_grantLease 76 = .ok (.iconst 0, 1) := by decide +kernel
theorem dX4_grantLease_77 : decode cX4_grantLease 77 = .ok (.istore_n 3, 1) := by decide +kernel
theorem dX4_grantLease_78 : decode cX4_grantLease 78 = .ok (.iload_n 3, 1) := by decide +kernel
theorem dX4_grantLease_79 : decode cX4_grantLease 79 = .ok (.aload_n 1, 1) := by decide +kernel
theorem dX4_grantLease_80 : decode cX4_grantLease 80 = .ok (.getfield 184, 3) := by decide +kernel
theorem dX4_grantLease_83 : decode cX4_grantLease 83 = .ok (.invokevirtual 44, 3) := by decide +kernel
theorem dX4_grantLease_86 : decode cX4_grantLease 86 = .ok (.if_icmp .ge 40, 3) := by decide +kernel
theorem dX4_grantLease_89 : decode cX4_grantLease 89 = .ok (.aload_n 1, 1) := by decide +kernel
theorem dX4_grantLease_90 : decode cX4_grantLease 90 = .ok (.getfield 184, 3) := by decide +kernel
theorem dX4_grantLease_93 : decode cX4_grantLease 93 = .ok (.iload_n 3, 1) := by decide +kernel
theorem dX4_grantLease_94 : decode cX4_grantLease 94 = .ok (.invokevirtual 127, 3) := by decide +kernel
theorem dX4_grantLease_97 : decode cX4_grantLease 97 = .ok (.checkcast 53, 3) := by decide +kernel
theorem dX4_grantLease_100 : decode cX4_grantLease 100 = .ok (.aload_n 1, 1) := by decide +kernel
theorem dX4_grantLease_101 : decode cX4_grantLease 101 = .ok (.invokevirtual 82, 3) := by decide +kernel
theorem dX4_grantLease_104 : decode cX4_grantLease 104 = .ok (.astore 4, 2) := by decide +kernel
theorem dX4_grantLease_106 : decode cX4_grantLease 106 = .ok (.aload 4, 2) := by decide +kernel
theorem dX4_grantLease_108 : decode cX4_grantLease 108 = .ok (.ifnull 12, 3) := by decide +kernel
theorem dX4_grantLease_111 : decode cX4_grantLease 111 = .ok (.aload 4, 2) := by decide +kernel
theorem dX4_grantLease_113 : decode cX4_grantLease 113 = .ok (.aload_n 1, 1) := by decide +kernel
theorem dX4_grantLease_114 : decode cX4_grantLease 114 = .ok (.getfield 181, 3) := by decide +kernel
theorem dX4_grantLease_117 : decode cX4_grantLease 117 = .ok (.putfield 210, 3) := by decide +kernel
theorem dX4_grantLease_120 : decode cX4_grantLease 120 = .ok (.iinc 3 1, 3) := by decide +kernel
theorem dX4_grantLease_123 : decode cX4_grantLease 123 = .ok (.goto (-45), 3) := by decide +kernel
theorem dX4_grantLease_126 : decode cX4_grantLease 126 = .ok (.aload_n 1, 1) := by decide +kernel
theorem dX4_grantLease_127 : decode cX4_grantLease 127 = .ok (.aload_n 2, 1) := by decide +kernel
theorem dX4_grantLease_128 : decode cX4_grantLease 128 = .ok (.putfield 190, 3) := by decide +kernel
theorem dX4_grantLease_131 : decode cX4_grantLease 131 = .ok (.aload_n 1, 1) := by decide +kernel
theorem dX4_grantLease_132 : decode cX4_grantLease 132 = .ok (.aload_n 0, 1) := by decide +kernel
theorem dX4_grantLease_133 : decode cX4_grantLease 133 = .ok (.getfield 22, 3) := by decide +kernel
theorem dX4_grantLease_136 : decode cX4_grantLease 136 = .ok (.bipush 10, 2) := by decide +kernel
theorem dX4_grantLease_138 : decode cX4_grantLease 138 = .ok (.iadd, 1) := by decide +kernel
theorem dX4_grantLease_139 : decode cX4_grantLease 139 = .ok (.putfield 198, 3) := by decide +kernel
theorem dX4_grantLease_142 : decode cX4_grantLease 142 = .ok (.return_, 1) := by decide +kernel
theorem dX4_passOneSecond_0 : decode cX4_passOneSecond 0 = .ok (.aload_n 0, 1) := by decide +kernel
theorem dX4_passOneSecond_1 : decode cX4_passOneSecond 1 = .ok (.dup, 1) := by decide +kernel
theorem dX4_passOneSecond_2 : decode cX4_passOneSecond 2 = .ok (.getfield 22, 3) := by decide +kernel
theorem dX4_passOneSecond_5 : decode cX4_passOneSecond 5 = .ok (.iconst 1, 1) := by decide +kernel
theorem dX4_passOneSecond_6 : decode cX4_passOneSecond 6 = .ok (.iadd, 1) := by decide +kernel
theorem dX4_passOneSecond_7 : decode cX4_passOneSecond 7 = .ok (.putfield 22, 3) := by decide +kernel
theorem dX4_passOneSecond_10 : decode cX4_passOneSecond 10 = .ok (.iconst 0, 1) := by decide +kernel
theorem dX4_passOneSecond_11 : decode cX4_passOneSecond 11 = .ok (.istore_n 1, 1) := by decide +kernel
theorem dX4_passOneSecond_12 : decode cX4_passOneSecond 12 = .ok (.iload_n 1, 1) := by decide +kernel
theorem dX4_passOneSecond_13 : decode cX4_passOneSecond 13 = .ok (.aload_n 0, 1) := by decide +kernel
theorem dX4_passOneSecond_14 : decode cX4_passOneSecond 14 = .ok (.getfield 10, 3) := by decide +kernel
theorem dX4_passOneSecond_17 : decode cX4_passOneSecond 17 = .ok (.invokevirtual 44, 3) := by decide +kernel
theorem dX4_passOneSecond_20 : decode cX4_passOneSecond 20 = .ok (.if_icmp .ge 24, 3) := by decide +kernel
theorem dX4_passOneSecond_23 : decode cX4_passOneSecond 23 = .ok (.aload_n 0, 1) := by decide +kernel
theorem dX4_passOneSecond_24 : decode cX4_passOneSecond 24 = .ok (.aload_n 0, 1) := by decide +kernel
theorem dX4_passOneSecond_25 : decode cX4_passOneSecond 25 = .ok (.getfield 10, 3) := by decide +kernel
theorem dX4_passOneSecond_28 : decode cX4_passOneSecond 28 = .ok (.iload_n 1, 1) := by decide +kernel
theorem dX4_passOneSecond_29 : decode cX4_passOneSecond 29 = .ok (.invokevirtual 127, 3) := by decide +kernel
theorem dX4_passOneSecond_32 : decode cX4_passOneSecond 32 = .ok (.checkcast 53, 3) := by decide +kernel
theorem dX4_passOneSecond_35 : decode cX4_passOneSecond 35 = .ok (.invokevirtual 342, 3) := by decide +kernel
theorem dX4_passOneSecond_38 : decode cX4_passOneSecond 38 = .ok (.iinc 1 1, 3) := by decide +kernel
theorem dX4_passOneSecond_41 : decode cX4_passOneSecond 41 = .ok (.goto (-29), 3) := by decide +kernel
theorem dX4_passOneSecond_44 : decode cX4_passOneSecond 44 = .ok (.iconst 0, 1) := by decide +kernel
theorem dX4_passOneSecond_45 : decode cX4_passOneSecond 45 = .ok (.istore_n 1, 1) := by decide +kernel
theorem dX4_passOneSecond_46 : decode cX4_passOneSecond 46 = .ok (.iload_n 1, 1) := by decide +kernel
theorem dX4_passOneSecond_47 : decode cX4_passOneSecond 47 = .ok (.aload_n 0, 1) := by decide +kernel
theorem dX4_passOneSecond_48 : decode cX4_passOneSecond 48 = .ok (.getfield 10, 3) := by decide +kernel
theorem dX4_passOneSecond_51 : decode cX4_passOneSecond 51 = .ok (.invokevirtual 44, 3) := by decide +kernel
theorem dX4_passOneSecond_54 : decode cX4_passOneSecond 54 = .ok (.if_icmp .ge 44, 3) := by decide +kernel
theorem dX4_passOneSecond_57 : decode cX4_passOneSecond 57 = .ok (.aload_n 0, 1) := by decide +kernel
theorem dX4_passOneSecond_58 : decode cX4_passOneSecond 58 = .ok (.getfield 10, 3) := by decide +kernel
theorem dX4_passOneSecond_61 : decode cX4_passOneSecond 61 = .ok (.iload_n 1, 1) := by decide +kernel
theorem dX4_passOneSecond_62 : decode cX4_passOneSecond 62 = .ok (.invokevirtual 127, 3) := by decide +kernel
theorem dX4_passOneSecond_65 : decode cX4_passOneSecond 65 = .ok (.checkcast 53, 3) := by decide +kernel
theorem dX4_passOneSecond_68 : decode cX4_passOneSecond 68 = .ok (.astore_n 2, 1) := by decide +kernel
theorem dX4_passOneSecond_69 : decode cX4_passOneSecond 69 = .ok (.aload_n 2, 1) := by decide +kernel
theorem dX4_passOneSecond_70 : decode cX4_passOneSecond 70 = .ok (.aload_n 2, 1) := by decide +kernel
theorem dX4_passOneSecond_71 : decode cX4_passOneSecond 71 = .ok (.getfield 220, 3) := by decide +kernel
theorem dX4_passOneSecond_74 : decode cX4_passOneSecond 74 = .ok (.ifCond .ne 10, 3) := by decide +kernel
theorem dX4_passOneSecond_77 : decode cX4_passOneSecond 77 = .ok (.aload_n 2, 1) := by decide +kernel
theorem dX4_passOneSecond_78 : decode cX4_passOneSecond 78 = .ok (.getfield 69, 3) := by decide +kernel
theorem dX4_passOneSecond_81 : decode cX4_passOneSecond 81 = .ok (.ifCond .eq 7, 3) := by decide +kernel
theorem dX4_passOneSecond_84 : decode cX4_passOneSecond 84 = .ok (.iconst 1, 1) := by decide +kernel
theorem dX4_passOneSecond_85 : decode cX4_passOneSecond 85 = .ok (.goto 4, 3) := by decide +kernel
theorem dX4_passOneSecond_88 : decode cX4_passOneSecond 88 = .ok (.iconst 0, 1) := by decide +kernel
theorem dX4_passOneSecond_89 : decode cX4_passOneSecond 89 = .ok (.putfield 220, 3) := by decide +kernel
theorem dX4_passOneSecond_92 : decode cX4_passOneSecond 92 = .ok (.iinc 1 1, 3) := by decide +kernel
theorem dX4_passOneSecond_95 : decode cX4_passOneSecond 95 = .ok (.goto (-49), 3) := by decide +kernel
theorem dX4_passOneSecond_98 : decode cX4_passOneSecond 98 = .ok (.iconst 0, 1) := by decide +kernel
theorem dX4_passOneSecond_99 : decode cX4_passOneSecond 99 = .ok (.istore_n 1, 1) := by decide +kernel
theorem dX4_passOneSecond_100 : decode cX4_passOneSecond 100 = .ok (.iload_n 1, 1) := by decide +kernel
theorem dX4_passOneSecond_101 : decode cX4_passOneSecond 101 = .ok (.aload_n 0, 1) := by decide +kernel
theorem dX4_passOneSecond_102 : decode cX4_passOneSecond 102 = .ok (.getfield 10, 3) := by decide +kernel
theorem dX4_passOneSecond_105 : decode cX4_passOneSecond 105 = .ok (.invokevirtual 44, 3) := by decide +kernel
theorem dX4_passOneSecond_108 : decode cX4_passOneSecond 108 = .ok (.if_icmp .ge 23, 3) := by decide +kernel
theorem dX4_passOneSecond_111 : decode cX4_passOneSecond 111 = .ok (.aload_n 0, 1) := by decide +kernel
theorem dX4_passOneSecond_112 : decode cX4_passOneSecond 112 = .ok (.getfield 10, 3) := by decide +kernel
theorem dX4_passOneSecond_115 : decode cX4_passOneSecond 115 = .ok (.iload_n 1, 1) := by decide +kernel
theorem dX4_passOneSecond_116 : decode cX4_passOneSecond 116 = .ok (.invokevirtual 127, 3) := by decide +kernel
theorem dX4_passOneSecond_119 : decode cX4_passOneSecond 119 = .ok (.checkcast 53, 3) := by decide +kernel
theorem dX4_passOneSecond_122 : decode cX4_passOneSecond 122 = .ok (.invokestatic 345, 3) := by decide +kernel
theorem dX4_passOneSecond_125 : decode cX4_passOneSecond 125 = .ok (.iinc 1 1, 3) := by decide +kernel
theorem dX4_passOneSecond_128 : decode cX4_passOneSecond 128 = .ok (.goto (-28), 3) := by decide +kernel
theorem dX4_passOneSecond_131 : decode cX4_passOneSecond 131 = .ok (.aload_n 0, 1) := by decide +kernel
theorem dX4_passOneSecond_132 : decode cX4_passOneSecond 132 = .ok (.invokevirtual 348, 3) := by decide +kernel
theorem dX4_passOneSecond_135 : decode cX4_passOneSecond 135 = .ok (.iconst 0, 1) := by decide +kernel
theorem dX4_passOneSecond_136 : decode cX4_passOneSecond 136 = .ok (.istore_n 1, 1) := by decide +kernel
theorem dX4_passOneSecond_137 : decode cX4_passOneSecond 137 = .ok (.iload_n 1, 1) := by decide +kernel
theorem dX4_passOneSecond_138 : decode cX4_passOneSecond 138 = .ok (.aload_n 0, 1) := by decide +kernel
theorem dX4_passOneSecond_139 : decode cX4_passOneSecond 139 = .ok (.getfield 10, 3) := by decide +kernel
theorem dX4_passOneSecond_142 : decode cX4_passOneSecond 142 = .ok (.invokevirtual 44, 3) := by decide +kernel
theorem dX4_passOneSecond_145 : decode cX4_passOneSecond 145 = .ok (.if_icmp .ge 23, 3) := by decide +kernel
theorem dX4_passOneSecond_148 : decode cX4_passOneSecond 148 = .ok (.aload_n 0, 1) := by decide +kernel
theorem dX4_passOneSecond_149 : decode cX4_passOneSecond 149 = .ok (.getfield 10, 3) := by decide +kernel
theorem dX4_passOneSecond_152 : decode cX4_passOneSecond 152 = .ok (.iload_n 1, 1) := by decide +kernel
theorem dX4_passOneSecond_153 : decode cX4_passOneSecond 153 = .ok (.invokevirtual 127, 3) := by decide +kernel
theorem dX4_passOneSecond_156 : decode cX4_passOneSecond 156 = .ok (.checkcast 53, 3) := by decide +kernel
theorem dX4_passOneSecond_159 : decode cX4_passOneSecond 159 = .ok (.invokestatic 351, 3) := by decide +kernel
theorem dX4_passOneSecond_162 : decode cX4_passOneSecond 162 = .ok (.iinc 1 1, 3) := by decide +kernel
theorem dX4_passOneSecond_165 : decode cX4_passOneSecond 165 = .ok (.goto (-28), 3) := by decide +kernel
theorem dX4_passOneSecond_168 : decode cX4_passOneSecond 168 = .ok (.iconst 0, 1) := by decide +kernel
theorem dX4_passOneSecond_169 : decode cX4_passOneSecond 169 = .ok (.istore_n 1, 1) := by decide +kernel
theorem dX4_passOneSecond_170 : decode cX4_passOneSecond 170 = .ok (.iload_n 1, 1) := by decide +kernel
theorem dX4_passOneSecond_171 : decode cX4_passOneSecond 171 = .ok (.aload_n 0, 1) := by decide +kernel
theorem dX4_passOneSecond_172 : decode cX4_passOneSecond 172 = .ok (.getfield 26, 3) := by decide +kernel
theorem dX4_passOneSecond_175 : decode cX4_passOneSecond 175 = .ok (.if_icmp .ge 13, 3) := by decide +kernel
theorem dX4_passOneSecond_178 : decode cX4_passOneSecond 178 = .ok (.aload_n 0, 1) := by decide +kernel
theorem dX4_passOneSecond_179 : decode cX4_passOneSecond 179 = .ok (.invokevirtual 354, 3) := by decide +kernel
theorem dX4_passOneSecond_182 : decode cX4_passOneSecond 182 = .ok (.iinc 1 1, 3) := by decide +kernel
theorem dX4_passOneSecond_185 : decode cX4_passOneSecond 185 = .ok (.goto (-15), 3) := by decide +kernel
theorem dX4_passOneSecond_188 : decode cX4_passOneSecond 188 = .ok (.iconst 0, 1) := by decide +kernel
theorem dX4_passOneSecond_189 : decode cX4_passOneSecond 189 = .ok (.istore_n 1, 1) := by decide +kernel
theorem dX4_passOneSecond_190 : decode cX4_passOneSecond 190 = .ok (.iload_n 1, 1) := by decide +kernel
theorem dX4_passOneSecond_191 : decode cX4_passOneSecond 191 = .ok (.aload_n 0, 1) := by decide +kernel
theorem dX4_passOneSecond_192 : decode cX4_passOneSecond 192 = .ok (.getfield 16, 3) := by decide +kernel
theorem dX4_passOneSecond_195 : decode cX4_passOneSecond 195 = .ok (.invokevirtual 44, 3) := by decide +kernel
theorem dX4_passOneSecond_198 : decode cX4_passOneSecond 198 = .ok (.if_icmp .ge 23, 3) := by decide +kernel
theorem dX4_passOneSecond_201 : decode cX4_passOneSecond 201 = .ok (.aload_n 0, 1) := by decide +kernel
theorem dX4_passOneSecond_202 : decode cX4_passOneSecond 202 = .ok (.getfield 16, 3) := by decide +kernel
theorem dX4_passOneSecond_205 : decode cX4_passOneSecond 205 = .ok (.iload_n 1, 1) := by decide +kernel
theorem dX4_passOneSecond_206 : decode cX4_passOneSecond 206 = .ok (.invokevirtual 127, 3) := by decide +kernel
theorem dX4_passOneSecond_209 : decode cX4_passOneSecond 209 = .ok (.checkcast 131, 3) := by decide +kernel
theorem dX4_passOneSecond_212 : decode cX4_passOneSecond 212 = .ok (.invokestatic 357, 3) := by decide +kernel
theorem dX4_passOneSecond_215 : decode cX4_passOneSecond 215 = .ok (.iinc 1 1, 3) := by decide +kernel
theorem dX4_passOneSecond_218 : decode cX4_passOneSecond 218 = .ok (.goto (-28), 3) := by decide +kernel
theorem dX4_passOneSecond_221 : decode cX4_passOneSecond 221 = .ok (.aload_n 0, 1) := by decide +kernel
theorem dX4_passOneSecond_222 : decode cX4_passOneSecond 222 = .ok (.getfield 29, 3) := by decide +kernel
theorem dX4_passOneSecond_225 : decode cX4_passOneSecond 225 = .ok (.ifCond .eq 7, 3) := by decide +kernel
theorem dX4_passOneSecond_228 : decode cX4_passOneSecond 228 = .ok (.aload_n 0, 1) := by decide +kernel
theorem dX4_passOneSecond_229 : decode cX4_passOneSecond 229 = .ok (.invokevirtual 360, 3) := by decide +kernel
theorem dX4_passOneSecond_232 : decode cX4_passOneSecond 232 = .ok (.return_, 1) := by decide +kernel
theorem dX4_stopCountingIfLongDown_0 : decode cX4_stopCountingIfLongDown 0 = .ok (.aload_n 1, 1) := by decide +kernel
theorem dX4_stopCountingIfLongDown_1 : decode cX4_stopCountingIfLongDown 1 = .ok (.getfield 69, 3) := by decide +kernel
theorem dX4_stopCountingIfLongDown_4 : decode cX4_stopCountingIfLongDown 4 = .ok (.ifCond .ne 23, 3) := by decide +kernel
theorem dX4_stopCountingIfLongDown_7 : decode cX4_stopCountingIfLongDown 7 = .ok (.aload_n 1, 1) := by decide +kernel
theorem dX4_stopCountingIfLongDown_8 : decode cX4_stopCountingIfLongDown 8 = .ok (.getfield 220, 3) := by decide +kernel
theorem dX4_stopCountingIfLongDown_11 : decode cX4_stopCountingIfLongDown 11 = .ok (.ifCond .eq 16, 3) := by decide +kernel
theorem dX4_stopCountingIfLongDown_14 : decode cX4_stopCountingIfLongDown 14 = .ok (.aload_n 0, 1) := by decide +kernel
theorem dX4_stopCountingIfLongDown_15 : decode cX4_stopCountingIfLongDown 15 = .ok (.getfield 22, 3) := by decide +kernel
theorem dX4_stopCountingIfLongDown_18 : decode cX4_stopCountingIfLongDown 18 = .ok (.aload_n 1, 1) := by decide +kernel
theorem dX4_stopCountingIfLongDown_19 : decode cX4_stopCountingIfLongDown 19 = .ok (.getfield 72, 3) := by decide +kernel
theorem dX4_stopCountingIfLongDown_22 : decode cX4_stopCountingIfLongDown 22 = .ok (.isub, 1) := by decide +kernel
theorem dX4_stopCountingIfLongDown_23 : decode cX4_stopCountingIfLongDown 23 = .ok (.iconst 3, 1) := by decide +kernel
theorem dX4_stopCountingIfLongDown_24 : decode cX4_stopCountingIfLongDown 24 = .ok (.if_icmp .ge 4, 3) := by decide +kernel
theorem dX4_stopCountingIfLongDown_27 : decode cX4_stopCountingIfLongDown 27 = .ok (.return_, 1) := by decide +kernel
theorem dX4_stopCountingIfLongDown_28 : decode cX4_stopCountingIfLongDown 28 = .ok (.aload_n 1, 1) := by decide +kernel
theorem dX4_stopCountingIfLongDown_29 : decode cX4_stopCountingIfLongDown 29 = .ok (.iconst 0, 1) := by decide +kernel
theorem dX4_stopCountingIfLongDown_30 : decode cX4_stopCountingIfLongDown 30 = .ok (.putfield 220, 3) := by decide +kernel
theorem dX4_stopCountingIfLongDown_33 : decode cX4_stopCountingIfLongDown 33 = .ok (.iconst 0, 1) := by decide +kernel
theorem dX4_stopCountingIfLongDown_34 : decode cX4_stopCountingIfLongDown 34 = .ok (.istore_n 2, 1) := by decide +kernel
theorem dX4_stopCountingIfLongDown_35 : decode cX4_stopCountingIfLongDown 35 = .ok (.iload_n 2, 1) := by decide +kernel
theorem dX4_stopCountingIfLongDown_36 : decode cX4_stopCountingIfLongDown 36 = .ok (.aload_n 0, 1) := by decide +kernel
theorem dX4_stopCountingIfLongDown_37 : decode cX4_stopCountingIfLongDown 37 = .ok (.getfield 16, 3) := by decide +kernel
theorem dX4_stopCountingIfLongDown_40 : decode cX4_stopCountingIfLongDown 40 = .ok (.invokevirtual 44, 3) := by decide +kernel
theorem dX4_stopCountingIfLongDown_43 : decode cX4_stopCountingIfLongDown 43 = .ok (.if_icmp .ge 38, 3) := by decide +kernel
theorem dX4_stopCountingIfLongDown_46 : decode cX4_stopCountingIfLongDown 46 = .ok (.aload_n 0, 1) := by decide +kernel
theorem dX4_stopCountingIfLongDown_47 : decode cX4_stopCountingIfLongDown 47 = .ok (.getfield 16, 3) := by decide +kernel
theorem dX4_stopCountingIfLongDown_50 : decode cX4_stopCountingIfLongDown 50 = .ok (.iload_n 2, 1) := by decide +kernel
theorem dX4_stopCountingIfLongDown_51 : decode cX4_stopCountingIfLongDown 51 = .ok (.invokevirtual 127, 3) := by decide +kernel
theorem dX4_stopCountingIfLongDown_54 : decode cX4_stopCountingIfLongDown 54 = .ok (.checkcast 131, 3) := by decide +kernel
theorem dX4_stopCountingIfLongDown_57 : decode cX4_stopCountingIfLongDown 57 = .ok (.astore_n 3, 1) := by decide +kernel
theorem dX4_stopCountingIfLongDown_58 : decode cX4_stopCountingIfLongDown 58 = .ok (.aload_n 3, 1) := by decide +kernel
theorem dX4_stopCountingIfLongDown_59 : decode cX4_stopCountingIfLongDown 59 = .ok (.aload_n 1, 1) := by decide +kernel
theorem dX4_stopCountingIfLongDown_60 : decode cX4_stopCountingIfLongDown 60 = .ok (.invokevirtual 363, 3) := by decide +kernel
theorem dX4_stopCountingIfLongDown_63 : decode cX4_stopCountingIfLongDown 63 = .ok (.ifCond .eq 12, 3) := by decide +kernel
theorem dX4_stopCountingIfLongDown_66 : decode cX4_stopCountingIfLongDown 66 = .ok (.aload_n 3, 1) := by decide +kernel
theorem dX4_stopCountingIfLongDown_67 : decode cX4_stopCountingIfLongDown 67 = .ok (.aload_n 1, 1) := by decide +kernel
theorem dX4_stopCountingIfLongDown_68 : decode cX4_stopCountingIfLongDown 68 = .ok (.invokevirtual 285, 3) := by decide +kernel
theorem dX4_stopCountingIfLongDown_71 : decode cX4_stopCountingIfLongDown 71 = .ok (.aload_n 3, 1) := by decide +kernel
theorem dX4_stopCountingIfLongDown_72 : decode cX4_stopCountingIfLongDown 72 = .ok (.invokevirtual 329, 3) := by decide +kernel
theorem dX4_stopCountingIfLongDown_75 : decode cX4_stopCountingIfLongDown 75 = .ok (.iinc 2 1, 3) := by decide +kernel
theorem dX4_stopCountingIfLongDown_78 : decode cX4_stopCountingIfLongDown 78 = .ok (.goto (-43), 3) := by decide +kernel
theorem dX4_stopCountingIfLongDown_81 : decode cX4_stopCountingIfLongDown 81 = .ok (.return_, 1) := by decide +kernel
theorem dX4_sortOutPlaces_0 : decode cX4_sortOutPlaces 0 = .ok (.aload_n 0, 1) := by decide +kernel
theorem dX4_sortOutPlaces_1 : decode cX4_sortOutPlaces 1 = .ok (.getfield 69, 3) := by decide +kernel
theorem dX4_sortOutPlaces_4 : decode cX4_sortOutPlaces 4 = .ok (.ifCond .ne 4, 3) := by decide +kernel
theorem dX4_sortOutPlaces_7 : decode cX4_sortOutPlaces 7 = .ok (.return_, 1) := by decide +kernel
theorem dX4_sortOutPlaces_8 : decode cX4_sortOutPlaces 8 = .ok (.aload_n 0, 1) := by decide +kernel
theorem dX4_sortOutPlaces_9 : decode cX4_sortOutPlaces 9 = .ok (.getfield 367, 3) := by decide +kernel
theorem dX4_sortOutPlaces_12 : decode cX4_sortOutPlaces 12 = .ok (.astore_n 1, 1) := by decide +kernel
theorem dX4_sortOutPlaces_13 : decode cX4_sortOutPlaces 13 = .ok (.aload_n 1, 1) := by decide +kernel
theorem dX4_sortOutPlaces_14 : decode cX4_sortOutPlaces 14 = .ok (.arraylength, 1) := by decide +kernel
theorem dX4_sortOutPlaces_15 : decode cX4_sortOutPlaces 15 = .ok (.istore_n 2, 1) := by decide +kernel
theorem dX4_sortOutPlaces_16 : decode cX4_sortOutPlaces 16 = .ok (.iconst 0, 1) := by decide +kernel
theorem dX4_sortOutPlaces_17 : decode cX4_sortOutPlaces 17 = .ok (.istore_n 3, 1) := by decide +kernel
theorem dX4_sortOutPlaces_18 : decode cX4_sortOutPlaces 18 = .ok (.iload_n 3, 1) := by decide +kernel
theorem dX4_sortOutPlaces_19 : decode cX4_sortOutPlaces 19 = .ok (.iload_n 2, 1) := by decide +kernel
theorem dX4_sortOutPlaces_20 : decode cX4_sortOutPlaces 20 = .ok (.if_icmp .ge 111, 3) := by decide +kernel
theorem dX4_sortOutPlaces_23 : decode cX4_sortOutPlaces 23 = .ok (.aload_n 1, 1) := by decide +kernel
theorem dX4_sortOutPlaces_24 : decode cX4_sortOutPlaces 24 = .ok (.iload_n 3, 1) := by decide +kernel
theorem dX4_sortOutPlaces_25 : decode cX4_sortOutPlaces 25 = .ok (.aaload, 1) := by decide +kernel
theorem dX4_sortOutPlaces_26 : decode cX4_sortOutPlaces 26 = .ok (.astore 4, 2) := by decide +kernel
theorem dX4_sortOutPlaces_28 : decode cX4_sortOutPlaces 28 = .ok (.aload 4, 2) := by decide +kernel
theorem dX4_sortOutPlaces_30 : decode cX4_sortOutPlaces 30 = .ok (.getfield 278, 3) := by decide +kernel
theorem dX4_sortOutPlaces_33 : decode cX4_sortOutPlaces 33 = .ok (.astore 5, 2) := by decide +kernel
theorem dX4_sortOutPlaces_35 : decode cX4_sortOutPlaces 35 = .ok (.aload 5, 2) := by decide +kernel
theorem dX4_sortOutPlaces_37 : decode cX4_sortOutPlaces 37 = .ok (.ifnonnull 6, 3) := by decide +kernel
theorem dX4_sortOutPlaces_40 : decode cX4_sortOutPlaces 40 = .ok (.goto 85, 3) := by decide +kernel
theorem dX4_sortOutPlaces_43 : decode cX4_sortOutPlaces 43 = .ok (.aload 5, 2) := by decide +kernel
theorem dX4_sortOutPlaces_45 : decode cX4_sortOutPlaces 45 = .ok (.aload_n 0, 1) := by decide +kernel
theorem dX4_sortOutPlaces_46 : decode cX4_sortOutPlaces 46 = .ok (.invokevirtual 363, 3) := by decide +kernel
theorem dX4_sortOutPlaces_49 : decode cX4_sortOutPlaces 49 = .ok (.istore 6, 2) := by decide +kernel
theorem dX4_sortOutPlaces_51 : decode cX4_sortOutPlaces 51 = .ok (.iload 6, 2) := by decide +kernel
theorem dX4_sortOutPlaces_53 : decode cX4_sortOutPlaces 53 = .ok (.ifCond .ne 19, 3) := by decide +kernel
theorem dX4_sortOutPlaces_56 : decode cX4_sortOutPlaces 56 = .ok (.aload 5, 2) := by decide +kernel
theorem dX4_sortOutPlaces_58 : decode cX4_sortOutPlaces 58 = .ok (.getfield 184, 3) := by decide +kernel
theorem dX4_sortOutPlaces_61 : decode cX4_sortOutPlaces 61 = .ok (.invokevirtual 44, 3) := by decide +kernel
theorem dX4_sortOutPlaces_64 : decode cX4_sortOutPlaces 64 = .ok (.iconst 3, 1) := by decide +kernel
theorem dX4_sortOutPlaces_65 : decode cX4_sortOutPlaces 65 = .ok (.if_icmp .lt 7, 3) := by decide +kernel
theorem dX4_sortOutPlaces_68 : decode cX4_sortOutPlaces 68 = .ok (.iconst 1, 1) := by decide +kernel
theorem dX4_sortOutPlaces_69 : decode cX4_sortOutPlaces 69 = .ok (.goto 4, 3) := by decide +kernel
theorem dX4_sortOutPlaces_72 : decode cX4_sortOutPlaces 72 = .ok (.iconst 0, 1) := by decide +kernel
theorem dX4_sortOutPlaces_73 : decode cX4_sortOutPlaces 73 = .ok (.istore 7, 2) := by decide +kernel
theorem dX4_sortOutPlaces_75 : decode cX4_sortOutPlaces 75 = .ok (.aload 5, 2) := by decide +kernel
theorem dX4_sortOutPlaces_77 : decode cX4_sortOutPlaces 77 = .ok (.invokevirtual 225, 3) := by decide +kernel
theorem dX4_sortOutPlaces_80 : decode cX4_sortOutPlaces 80 = .ok (.ifCond .ne 21, 3) := by decide +kernel
theorem dX4_sortOutPlaces_83 : decode cX4_sortOutPlaces 83 = .ok (.aload 4, 2) := by decide +kernel
theorem dX4_sortOutPlaces_85 : decode cX4_sortOutPlaces 85 = .ok (.getfield 210, 3) := by decide +kernel
theorem dX4_sortOutPlaces_88 : decode cX4_sortOutPlaces 88 = .ok (.aload 5, 2) := by decide +kernel
theorem dX4_sortOutPlaces_90 : decode cX4_sortOutPlaces 90 = .ok (.getfield 181, 3) := by decide +kernel
theorem dX4_sortOutPlaces_93 : decode cX4_sortOutPlaces 93 = .ok (.if_icmp .ne 8, 3) := by decide +kernel
theorem dX4_sortOutPlaces_96 : decode cX4_sortOutPlaces 96 = .ok (.iload 7, 2) := by decide +kernel
theorem dX4_sortOutPlaces_98 : decode cX4_sortOutPlaces 98 = .ok (.ifCond .eq 12, 3) := by decide +kernel
theorem dX4_sortOutPlaces_101 : decode cX4_sortOutPlaces 101 = .ok (.aload_n 0, 1) := by decide +kernel
theorem dX4_sortOutPlaces_102 : decode cX4_sortOutPlaces 102 = .ok (.aload 4, 2) := by decide +kernel
theorem dX4_sortOutPlaces_104 : decode cX4_sortOutPlaces 104 = .ok (.invokestatic 176, 3) := by decide +kernel
theorem dX4_sortOutPlaces_107 : decode cX4_sortOutPlaces 107 = .ok (.goto 18, 3) := by decide +kernel
theorem dX4_sortOutPlaces_110 : decode cX4_sortOutPlaces 110 = .ok (.iload 6, 2) := by decide +kernel
theorem dX4_sortOutPlaces_112 : decode cX4_sortOutPlaces 112 = .ok (.ifCond .ne 13, 3) := by decide +kernel
theorem dX4_sortOutPlaces_115 : decode cX4_sortOutPlaces 115 = .ok (.aload 5, 2) := by decide +kernel
theorem dX4_sortOutPlaces_117 : decode cX4_sortOutPlaces 117 = .ok (.getfield 184, 3) := by decide +kernel
theorem dX4_sortOutPlaces_120 : decode cX4_sortOutPlaces 120 = .ok (.aload_n 0, 1) := by decide +kernel
theorem dX4_sortOutPlaces_121 : decode cX4_sortOutPlaces 121 = .ok (.invokevirtual 58, 3) := by decide +kernel
theorem dX4_sortOutPlaces_124 : decode cX4_sortOutPlaces 124 = .ok (.pop, 1) := by decide +kernel
theorem dX4_sortOutPlaces_125 : decode cX4_sortOutPlaces 125 = .ok (.iinc 3 1, 3) := by decide +kernel
theorem dX4_sortOutPlaces_128 : decode cX4_sortOutPlaces 128 = .ok (.goto (-110), 3) := by decide +kernel
theorem dX4_sortOutPlaces_131 : decode cX4_sortOutPlaces 131 = .ok (.return_, 1) := by decide +kernel
theorem dX4_endFiles_0 : decode cX4_endFiles 0 = .ok (.iconst 0, 1) := by decide +kernel
theorem dX4_endFiles_1 : decode cX4_endFiles 1 = .ok (.istore_n 1, 1) := by decide +kernel
theorem dX4_endFiles_2 : decode cX4_endFiles 2 = .ok (.iload_n 1, 1) := by decide +kernel
theorem dX4_endFiles_3 : decode cX4_endFiles 3 = .ok (.aload_n 0, 1) := by decide +kernel
theorem dX4_endFiles_4 : decode cX4_endFiles 4 = .ok (.getfield 19, 3) := by decide +kernel
theorem dX4_endFiles_7 : decode cX4_endFiles 7 = .ok (.invokevirtual 44, 3) := by decide +kernel
theorem dX4_endFiles_10 : decode cX4_endFiles 10 = .ok (.if_icmp .ge 47, 3) := by decide +kernel
theorem dX4_endFiles_13 : decode cX4_endFiles 13 = .ok (.aload_n 0, 1) := by decide +kernel
theorem dX4_endFiles_14 : decode cX4_endFiles 14 = .ok (.getfield 19, 3) := by decide +kernel
theorem dX4_endFiles_17 : decode cX4_endFiles 17 = .ok (.iload_n 1, 1) := by decide +kernel
theorem dX4_endFiles_18 : decode cX4_endFiles 18 = .ok (.invokevirtual 127, 3) := by decide +kernel
theorem dX4_endFiles_21 : decode cX4_endFiles 21 = .ok (.checkcast 114, 3) := by decide +kernel
theorem dX4_endFiles_24 : decode cX4_endFiles 24 = .ok (.astore_n 2, 1) := by decide +kernel
theorem dX4_endFiles_25 : decode cX4_endFiles 25 = .ok (.aload_n 2, 1) := by decide +kernel
theorem dX4_endFiles_26 : decode cX4_endFiles 26 = .ok (.getfield 136, 3) := by decide +kernel
theorem dX4_endFiles_29 : decode cX4_endFiles 29 = .ok (.iconst 1, 1) := by decide +kernel
theorem dX4_endFiles_30 : decode cX4_endFiles 30 = .ok (.if_icmp .ne 21, 3) := by decide +kernel
theorem dX4_endFiles_33 : decode cX4_endFiles 33 = .ok (.aload_n 0, 1) := by decide +kernel
theorem dX4_endFiles_34 : decode cX4_endFiles 34 = .ok (.getfield 22, 3) := by decide +kernel
theorem dX4_endFiles_37 : decode cX4_endFiles 37 = .ok (.aload_n 2, 1) := by decide +kernel
theorem dX4_endFiles_38 : decode cX4_endFiles 38 = .ok (.getfield 139, 3) := by decide +kernel
theorem dX4_endFiles_41 : decode cX4_endFiles 41 = .ok (.isub, 1) := by decide +kernel
theorem dX4_endFiles_42 : decode cX4_endFiles 42 = .ok (.bipush 20, 2) := by decide +kernel
theorem dX4_endFiles_44 : decode cX4_endFiles 44 = .ok (.if_icmp .lt 7, 3) := by decide +kernel
theorem dX4_endFiles_47 : decode cX4_endFiles 47 = .ok (.aload_n 2, 1) := by decide +kernel
theorem dX4_endFiles_48 : decode cX4_endFiles 48 = .ok (.invokevirtual 371, 3) := by decide +kernel
theorem dX4_endFiles_51 : decode cX4_endFiles 51 = .ok (.iinc 1 1, 3) := by decide +kernel
theorem dX4_endFiles_54 : decode cX4_endFiles 54 = .ok (.goto (-52), 3) := by decide +kernel
theorem dX4_endFiles_57 : decode cX4_endFiles 57 = .ok (.return_, 1) := by decide +kernel
theorem dX4_lookAtNextPlace_0 : decode cX4_lookAtNextPlace 0 = .ok (.aload_n 0, 1) := by decide +kernel
theorem dX4_lookAtNextPlace_1 : decode cX4_lookAtNextPlace 1 = .ok (.getfield 69, 3) := by decide +kernel
theorem dX4_lookAtNextPlace_4 : decode cX4_lookAtNextPlace 4 = .ok (.ifCond .eq 10, 3) := by decide +kernel
theorem dX4_lookAtNextPlace_7 : decode cX4_lookAtNextPlace 7 = .ok (.aload_n 0, 1) := by decide +kernel
theorem dX4_lookAtNextPlace_8 : decode cX4_lookAtNextPlace 8 = .ok (.invokevirtual 374, 3) := by decide +kernel
theorem dX4_lookAtNextPlace_11 : decode cX4_lookAtNextPlace 11 = .ok (.goto 4, 3) := by decide +kernel
theorem dX4_lookAtNextPlace_14 : decode cX4_lookAtNextPlace 14 = .ok (.aconst_null, 1) := by decide +kernel
theorem dX4_lookAtNextPlace_15 : decode cX4_lookAtNextPlace 15 = .ok (.astore_n 1, 1) := by decide +kernel
theorem dX4_lookAtNextPlace_16 : decode cX4_lookAtNextPlace 16 = .ok (.aload_n 1, 1) := by decide +kernel
theorem dX4_lookAtNextPlace_17 : decode cX4_lookAtNextPlace 17 = .ok (.ifnull 10, 3) := by decide +kernel
theorem dX4_lookAtNextPlace_20 : decode cX4_lookAtNextPlace 20 = .ok (.aload_n 1, 1) := by decide +kernel
theorem dX4_lookAtNextPlace_21 : decode cX4_lookAtNextPlace 21 = .ok (.getfield 278, 3) := by decide +kernel
theorem dX4_lookAtNextPlace_24 : decode cX4_lookAtNextPlace 24 = .ok (.ifnonnull 4, 3) := by decide +kernel
theorem dX4_lookAtNextPlace_27 : decode cX4_lookAtNextPlace 27 = .ok (.return_, 1) := by decide +kernel
theorem dX4_lookAtNextPlace_28 : decode cX4_lookAtNextPlace 28 = .ok (.aload_n 0, 1) := by decide +kernel
theorem dX4_lookAtNextPlace_29 : decode cX4_lookAtNextPlace 29 = .ok (.aload_n 1, 1) := by decide +kernel
theorem dX4_lookAtNextPlace_30 : decode cX4_lookAtNextPlace 30 = .ok (.getfield 278, 3) := by decide +kernel
theorem dX4_lookAtNextPlace_33 : decode cX4_lookAtNextPlace 33 = .ok (.getfield 180, 3) := by decide +kernel
theorem dX4_lookAtNextPlace_36 : decode cX4_lookAtNextPlace 36 = .ok (.putfield 378, 3) := by decide +kernel
theorem dX4_lookAtNextPlace_39 : decode cX4_lookAtNextPlace 39 = .ok (.aload_n 1, 1) := by decide +kernel
theorem dX4_lookAtNextPlace_40 : decode cX4_lookAtNextPlace 40 = .ok (.getfield 214, 3) := by decide +kernel
theorem dX4_lookAtNextPlace_43 : decode cX4_lookAtNextPlace 43 = .ok (.ifCond .eq 8, 3) := by decide +kernel
theorem dX4_lookAtNextPlace_46 : decode cX4_lookAtNextPlace 46 = .ok (.aload_n 0, 1) := by decide +kernel
theorem dX4_lookAtNextPlace_47 : decode cX4_lookAtNextPlace 47 = .ok (.aload_n 1, 1) := by decide +kernel
theorem dX4_lookAtNextPlace_48 : decode cX4_lookAtNextPlace 48 = .ok (.invokestatic 176, 3) := by decide +kernel
theorem dX4_lookAtNextPlace_51 : decode cX4_lookAtNextPlace 51 = .ok (.return_, 1) := by decide +kernel
theorem dX4_mendNeediestPiece_0 : decode cX4_mendNeediestPiece 0 = .ok (.aconst_null, 1) := by decide +kernel
theorem dX4_mendNeediestPiece_1 : decode cX4_mendNeediestPiece 1 = .ok (.astore_n 1, 1) := by decide +kernel
theorem dX4_mendNeediestPiece_2 : decode cX4_mendNeediestPiece 2 = .ok (.iconst 0, 1) := by decide +kernel
theorem dX4_mendNeediestPiece_3 : decode cX4_mendNeediestPiece 3 = .ok (.istore_n 2, 1) := by decide +kernel
theorem dX4_mendNeediestPiece_4 : decode cX4_mendNeediestPiece 4 = .ok (.iload_n 2, 1) := by decide +kernel
theorem dX4_mendNeediestPiece_5 : decode cX4_mendNeediestPiece 5 = .ok (.aload_n 0, 1) := by decide +kernel
theorem dX4_mendNeediestPiece_6 : decode cX4_mendNeediestPiece 6 = .ok (.getfield 16, 3) := by decide +kernel
theorem dX4_mendNeediestPiece_9 : decode cX4_mendNeediestPiece 9 = .ok (.invokevirtual 44, 3) := by decide +kernel
theorem dX4_mendNeediestPiece_12 : decode cX4_mendNeediestPiece 12 = .ok (.if_icmp .ge 64, 3) := by decide +kernel
theorem dX4_mendNeediestPiece_15 : decode cX4_mendNeediestPiece 15 = .ok (.aload_n 0, 1) := by decide +kernel
theorem dX4_mendNeediestPiece_16 : decode cX4_mendNeediestPiece 16 = .ok (.getfield 16, 3) := by decide +kernel
theorem dX4_mendNeediestPiece_19 : decode cX4_mendNeediestPiece 19 = .ok (.iload_n 2, 1) := by decide +kernel
theorem dX4_mendNeediestPiece_20 : decode cX4_mendNeediestPiece 20 = .ok (.invokevirtual 127, 3) := by decide +kernel
theorem dX4_mendNeediestPiece_23 : decode cX4_mendNeediestPiece 23 = .ok (.checkcast 131, 3) := by decide +kernel
theorem dX4_mendNeediestPiece_26 : decode cX4_mendNeediestPiece 26 = .ok (.astore_n 3, 1) := by decide +kernel
theorem dX4_mendNeediestPiece_27 : decode cX4_mendNeediestPiece 27 = .ok (.aload_n 1, 1) := by decide +kernel
theorem dX4_mendNeediestPiece_28 : decode cX4_mendNeediestPiece 28 = .ok (.ifnull 20, 3) := by decide +kernel
theorem dX4_mendNeediestPiece_31 : decode cX4_mendNeediestPiece 31 = .ok (.aload_n 3, 1) := by decide +kernel
theorem dX4_mendNeediestPiece_32 : decode cX4_mendNeediestPiece 32 = .ok (.getfield 184, 3) := by decide +kernel
theorem dX4_mendNeediestPiece_35 : decode cX4_mendNeediestPiece 35 = .ok (.invokevirtual 44, 3) := by decide +kernel
theorem dX4_mendNeediestPiece_38 : decode cX4_mendNeediestPiece 38 = .ok (.aload_n 1, 1) := by decide +kernel
theorem dX4_mendNeediestPiece_39 : decode cX4_mendNeediestPiece 39 = .ok (.getfield 184, 3) := by decide +kernel
theorem dX4_mendNeediestPiece_42 : decode cX4_mendNeediestPiece 42 = .ok (.invokevirtual 44, 3) := by decide +kernel
theorem dX4_mendNeediestPiece_45 : decode cX4_mendNeediestPiece 45 = .ok (.if_icmp .ge 7, 3) := by decide +kernel
theorem dX4_mendNeediestPiece_48 : decode cX4_mendNeediestPiece 48 = .ok (.iconst 1, 1) := by decide +kernel
theorem dX4_mendNeediestPiece_49 : decode cX4_mendNeediestPiece 49 = .ok (.goto 4, 3) := by decide +kernel
theorem dX4_mendNeediestPiece_52 : decode cX4_mendNeediestPiece 52 = .ok (.iconst 0, 1) := by decide +kernel
theorem dX4_mendNeediestPiece_53 : decode cX4_mendNeediestPiece 53 = .ok (.istore 4, 2) := by decide +kernel
theorem dX4_mendNeediestPiece_55 : decode cX4_mendNeediestPiece 55 = .ok (.iload 4, 2) := by decide +kernel
theorem dX4_mendNeediestPiece_57 : decode cX4_mendNeediestPiece 57 = .ok (.ifCond .eq 13, 3) := by decide +kernel
theorem dX4_mendNeediestPiece_60 : decode cX4_mendNeediestPiece 60 = .ok (.aload_n 0, 1) := by decide +kernel
theorem dX4_mendNeediestPiece_61 : decode cX4_mendNeediestPiece 61 = .ok (.aload_n 3, 1) := by decide +kernel
theorem dX4_mendNeediestPiece_62 : decode cX4_mendNeediestPiece 62 = .ok (.invokevirtual 381, 3) := by decide +kernel
theorem dX4_mendNeediestPiece_65 : decode cX4_mendNeediestPiece 65 = .ok (.ifCond .eq 5, 3) := by decide +kernel
theorem dX4_mendNeediestPiece_68 : decode cX4_mendNeediestPiece 68 = .ok (.aload_n 3, 1) := by decide +kernel
theorem dX4_mendNeediestPiece_69 : decode cX4_mendNeediestPiece 69 = .ok (.astore_n 1, 1) := by decide +kernel
theorem dX4_mendNeediestPiece_70 : decode cX4_mendNeediestPiece 70 = .ok (.iinc 2 1, 3) := by decide +kernel
theorem dX4_mendNeediestPiece_73 : decode cX4_mendNeediestPiece 73 = .ok (.goto (-69), 3) := by decide +kernel
theorem dX4_mendNeediestPiece_76 : decode cX4_mendNeediestPiece 76 = .ok (.aload_n 1, 1) := by decide +kernel
theorem dX4_mendNeediestPiece_77 : decode cX4_mendNeediestPiece 77 = .ok (.ifnonnull 4, 3) := by decide +kernel
theorem dX4_mendNeediestPiece_80 : decode cX4_mendNeediestPiece 80 = .ok (.return_, 1) := by decide +kernel
theorem dX4_mendNeediestPiece_81 : decode cX4_mendNeediestPiece 81 = .ok (.aload_n 0, 1) := by decide +kernel
theorem dX4_mendNeediestPiece_82 : decode cX4_mendNeediestPiece 82 = .ok (.aload_n 1, 1) := by decide +kernel
theorem dX4_mendNeediestPiece_83 : decode cX4_mendNeediestPiece 83 = .ok (.invokevirtual 308, 3) := by decide +kernel
theorem dX4_mendNeediestPiece_86 : decode cX4_mendNeediestPiece 86 = .ok (.astore_n 2, 1) := by decide +kernel
theorem dX4_mendNeediestPiece_87 : decode cX4_mendNeediestPiece 87 = .ok (.aload_n 1, 1) := by decide +kernel
theorem dX4_mendNeediestPiece_88 : decode cX4_mendNeediestPiece 88 = .ok (.invokestatic 384, 3) := by decide +kernel
theorem dX4_mendNeediestPiece_91 : decode cX4_mendNeediestPiece 91 = .ok (.astore_n 3, 1) := by decide +kernel
theorem dX4_mendNeediestPiece_92 : decode cX4_mendNeediestPiece 92 = .ok (.aload_n 2, 1) := by decide +kernel
theorem dX4_mendNeediestPiece_93 : decode cX4_mendNeediestPiece 93 = .ok (.ifnull 21, 3) := by decide +kernel
theorem dX4_mendNeediestPiece_96 : decode cX4_mendNeediestPiece 96 = .ok (.aload_n 3, 1) := by decide +kernel
theorem dX4_mendNeediestPiece_97 : decode cX4_mendNeediestPiece 97 = .ok (.ifnull 17, 3) := by decide +kernel
theorem dX4_mendNeediestPiece_100 : decode cX4_mendNeediestPiece 100 = .ok (.aload_n 2, 1) := by decide +kernel
theorem dX4_mendNeediestPiece_101 : decode cX4_mendNeediestPiece 101 = .ok (.aload_n 1, 1) := by decide +kernel
theorem dX4_mendNeediestPiece_102 : decode cX4_mendNeediestPiece 102 = .ok (.aload_n 3, 1) := by decide +kernel
theorem dX4_mendNeediestPiece_103 : decode cX4_mendNeediestPiece 103 = .ok (.invokestatic 313, 3) := by decide +kernel
theorem dX4_mendNeediestPiece_106 : decode cX4_mendNeediestPiece 106 = .ok (.aload_n 1, 1) := by decide +kernel
theorem dX4_mendNeediestPiece_107 : decode cX4_mendNeediestPiece 107 = .ok (.aload_n 0, 1) := by decide +kernel
theorem dX4_mendNeediestPiece_108 : decode cX4_mendNeediestPiece 108 = .ok (.getfield 22, 3) := by decide +kernel
theorem dX4_mendNeediestPiece_111 : decode cX4_mendNeediestPiece 111 = .ok (.putfield 387, 3) := by decide +kernel
theorem dX4_mendNeediestPiece_114 : decode cX4_mendNeediestPiece 114 = .ok (.return_, 1) := by decide +kernel
theorem dX4_canBeMended_0 : decode cX4_canBeMended 0 = .ok (.aload_n 1, 1) := by decide +kernel
theorem dX4_canBeMended_1 : decode cX4_canBeMended 1 = .ok (.invokevirtual 225, 3) := by decide +kernel
theorem dX4_canBeMended_4 : decode cX4_canBeMended 4 = .ok (.ifCond .ne 44, 3) := by decide +kernel
theorem dX4_canBeMended_7 : decode cX4_canBeMended 7 = .ok (.aload_n 1, 1) := by decide +kernel
theorem dX4_canBeMended_8 : decode cX4_canBeMended 8 = .ok (.getfield 184, 3) := by decide +kernel
theorem dX4_canBeMended_11 : decode cX4_canBeMended 11 = .ok (.invokevirtual 44, 3) := by decide +kernel
theorem dX4_canBeMended_14 : decode cX4_canBeMended 14 = .ok (.iconst 3, 1) := by decide +kernel
theorem dX4_canBeMended_15 : decode cX4_canBeMended 15 = .ok (.if_icmp .ge 33, 3) := by decide +kernel
theorem dX4_canBeMended_18 : decode cX4_canBeMended 18 = .ok (.aload_n 1, 1) := by decide +kernel
theorem dX4_canBeMended_19 : decode cX4_canBeMended 19 = .ok (.getfield 387, 3) := by decide +kernel
theorem dX4_canBeMended_22 : decode cX4_canBeMended 22 = .ok (.aload_n 0, 1) := by decide +kernel
theorem dX4_canBeMended_23 : decode cX4_canBeMended 23 = .ok (.getfield 22, 3) := by decide +kernel
theorem dX4_canBeMended_26 : decode cX4_canBeMended 26 = .ok (.if_icmp .eq 22, 3) := by decide +kernel
theorem dX4_canBeMended_29 : decode cX4_canBeMended 29 = .ok (.aload_n 1, 1) := by decide +kernel
theorem dX4_canBeMended_30 : decode cX4_canBeMended 30 = .ok (.invokestatic 384, 3) := by decide +kernel
theorem dX4_canBeMended_33 : decode cX4_canBeMended 33 = .ok (.ifnull 15, 3) := by decide +kernel
theorem dX4_canBeMended_36 : decode cX4_canBeMended 36 = .ok (.aload_n 0, 1) := by decide +kernel
theorem dX4_canBeMended_37 : decode cX4_canBeMended 37 = .ok (.aload_n 1, 1) := by decide +kernel
theorem dX4_canBeMended_38 : decode cX4_canBeMended 38 = .ok (.invokevirtual 308, 3) := by decide +kernel
theorem dX4_canBeMended_41 : decode cX4_canBeMended 41 = .ok (.ifnull 7, 3) := by decide +kernel
theorem dX4_canBeMended_44 : decode cX4_canBeMended 44 = .ok (.iconst 1, 1) := by decide +kernel
theorem dX4_canBeMended_45 : decode cX4_canBeMended 45 = .ok (.goto 4, 3) := by decide +kernel
theorem dX4_canBeMended_48 : decode cX4_canBeMended 48 = .ok (.iconst 0, 1) := by decide +kernel
theorem dX4_canBeMended_49 : decode cX4_canBeMended 49 = .ok (.ireturn, 1) := by decide +kernel
theorem dX4_takeAwayOneTooMany_0 : decode cX4_takeAwayOneTooMany 0 = .ok (.aload_n 0, 1) := by decide +kernel
theorem dX4_takeAwayOneTooMany_1 : decode cX4_takeAwayOneTooMany 1 = .ok (.invokevirtual 225, 3) := by decide +kernel
theorem dX4_takeAwayOneTooMany_4 : decode cX4_takeAwayOneTooMany 4 = .ok (.ifCond .ne 14, 3) := by decide +kernel
theorem dX4_takeAwayOneTooMany_7 : decode cX4_takeAwayOneTooMany 7 = .ok (.aload_n 0, 1) := by decide +kernel
theorem dX4_takeAwayOneTooMany_8 : decode cX4_takeAwayOneTooMany 8 = .ok (.getfield 184, 3) := by decide +kernel
theorem dX4_takeAwayOneTooMany_11 : decode cX4_takeAwayOneTooMany 11 = .ok (.invokevirtual 44, 3) := by decide +kernel
theorem dX4_takeAwayOneTooMany_14 : decode cX4_takeAwayOneTooMany 14 = .ok (.iconst 3, 1) := by decide +kernel
theorem dX4_takeAwayOneTooMany_15 : decode cX4_takeAwayOneTooMany 15 = .ok (.if_icmp .gt 4, 3) := by decide +kernel
theorem dX4_takeAwayOneTooMany_18 : decode cX4_takeAwayOneTooMany 18 = .ok (.return_, 1) := by decide +kernel
theorem dX4_takeAwayOneTooMany_19 : decode cX4_takeAwayOneTooMany 19 = .ok (.aconst_null, 1) := by decide +kernel
theorem dX4_takeAwayOneTooMany_20 : decode cX4_takeAwayOneTooMany 20 = .ok (.astore_n 1, 1) := by decide +kernel
theorem dX4_takeAwayOneTooMany_21 : decode cX4_takeAwayOneTooMany 21 = .ok (.iconst 0, 1) := by decide +kernel
theorem dX4_takeAwayOneTooMany_22 : decode cX4_takeAwayOneTooMany 22 = .ok (.istore_n 2, 1) := by decide +kernel
theorem dX4_takeAwayOneTooMany_23 : decode cX4_takeAwayOneTooMany 23 = .ok (.iload_n 2, 1) := by decide +kernel
theorem dX4_takeAwayOneTooMany_24 : decode cX4_takeAwayOneTooMany 24 = .ok (.aload_n 0, 1) := by decide +kernel
theorem dX4_takeAwayOneTooMany_25 : decode cX4_takeAwayOneTooMany 25 = .ok (.getfield 184, 3) := by decide +kernel
theorem dX4_takeAwayOneTooMany_28 : decode cX4_takeAwayOneTooMany 28 = .ok (.invokevirtual 44, 3) := by decide +kernel
theorem dX4_takeAwayOneTooMany_31 : decode cX4_takeAwayOneTooMany 31 = .ok (.if_icmp .ge 43, 3) := by decide +kernel
theorem dX4_takeAwayOneTooMany_34 : decode cX4_takeAwayOneTooMany 34 = .ok (.aload_n 0, 1) := by decide +kernel
theorem dX4_takeAwayOneTooMany_35 : decode cX4_takeAwayOneTooMany 35 = .ok (.getfield 184, 3) := by decide +kernel
theorem dX4_takeAwayOneTooMany_38 : decode cX4_takeAwayOneTooMany 38 = .ok (.iload_n 2, 1) := by decide +kernel
theorem dX4_takeAwayOneTooMany_39 : decode cX4_takeAwayOneTooMany 39 = .ok (.invokevirtual 127, 3) := by decide +kernel
theorem dX4_takeAwayOneTooMany_42 : decode cX4_takeAwayOneTooMany 42 = .ok (.checkcast 53, 3) := by decide +kernel
theorem dX4_takeAwayOneTooMany_45 : decode cX4_takeAwayOneTooMany 45 = .ok (.astore_n 3, 1) := by decide +kernel
theorem dX4_takeAwayOneTooMany_46 : decode cX4_takeAwayOneTooMany 46 = .ok (.aload_n 3, 1) := by decide +kernel
theorem dX4_takeAwayOneTooMany_47 : decode cX4_takeAwayOneTooMany 47 = .ok (.getfield 69, 3) := by decide +kernel
theorem dX4_takeAwayOneTooMany_50 : decode cX4_takeAwayOneTooMany 50 = .ok (.ifCond .eq 18, 3) := by decide +kernel
theorem dX4_takeAwayOneTooMany_53 : decode cX4_takeAwayOneTooMany 53 = .ok (.aload_n 1, 1) := by decide +kernel
theorem dX4_takeAwayOneTooMany_54 : decode cX4_takeAwayOneTooMany 54 = .ok (.ifnull 12, 3) := by decide +kernel
theorem dX4_takeAwayOneTooMany_57 : decode cX4_takeAwayOneTooMany 57 = .ok (.aload_n 0, 1) := by decide +kernel
theorem dX4_takeAwayOneTooMany_58 : decode cX4_takeAwayOneTooMany 58 = .ok (.aload_n 3, 1) := by decide +kernel
theorem dX4_takeAwayOneTooMany_59 : decode cX4_takeAwayOneTooMany 59 = .ok (.aload_n 1, 1) := by decide +kernel
theorem dX4_takeAwayOneTooMany_60 : decode cX4_takeAwayOneTooMany 60 = .ok (.invokestatic 390, 3) := by decide +kernel
theorem dX4_takeAwayOneTooMany_63 : decode cX4_takeAwayOneTooMany 63 = .ok (.ifCond .eq 5, 3) := by decide +kernel
theorem dX4_takeAwayOneTooMany_66 : decode cX4_takeAwayOneTooMany 66 = .ok (.aload_n 3, 1) := by decide +kernel
theorem dX4_takeAwayOneTooMany_67 : decode cX4_takeAwayOneTooMany 67 = .ok (.astore_n 1, 1) := by decide +kernel
theorem dX4_takeAwayOneTooMany_68 : decode cX4_takeAwayOneTooMany 68 = .ok (.iinc 2 1, 3) := by decide +kernel
theorem dX4_takeAwayOneTooMany_71 : decode cX4_takeAwayOneTooMany 71 = .ok (.goto (-48), 3) := by decide +kernel
theorem dX4_takeAwayOneTooMany_74 : decode cX4_takeAwayOneTooMany 74 = .ok (.aload_n 1, 1) := by decide +kernel
theorem dX4_takeAwayOneTooMany_75 : decode cX4_takeAwayOneTooMany 75 = .ok (.ifnonnull 7, 3) := by decide +kernel
theorem dX4_takeAwayOneTooMany_78 : decode cX4_takeAwayOneTooMany 78 = .ok (.aconst_null, 1) := by decide +kernel
theorem dX4_takeAwayOneTooMany_79 : decode cX4_takeAwayOneTooMany 79 = .ok (.goto 8, 3) := by decide +kernel
theorem dX4_takeAwayOneTooMany_82 : decode cX4_takeAwayOneTooMany 82 = .ok (.aload_n 1, 1) := by decide +kernel
theorem dX4_takeAwayOneTooMany_83 : decode cX4_takeAwayOneTooMany 83 = .ok (.aload_n 0, 1) := by decide +kernel
theorem dX4_takeAwayOneTooMany_84 : decode cX4_takeAwayOneTooMany 84 = .ok (.invokevirtual 82, 3) := by decide +kernel
theorem dX4_takeAwayOneTooMany_87 : decode cX4_takeAwayOneTooMany 87 = .ok (.astore_n 2, 1) := by decide +kernel
theorem dX4_takeAwayOneTooMany_88 : decode cX4_takeAwayOneTooMany 88 = .ok (.aload_n 2, 1) := by decide +kernel
theorem dX4_takeAwayOneTooMany_89 : decode cX4_takeAwayOneTooMany 89 = .ok (.ifnull 8, 3) := by decide +kernel
theorem dX4_takeAwayOneTooMany_92 : decode cX4_takeAwayOneTooMany 92 = .ok (.aload_n 1, 1) := by decide +kernel
theorem dX4_takeAwayOneTooMany_93 : decode cX4_takeAwayOneTooMany 93 = .ok (.aload_n 2, 1) := by decide +kernel
theorem dX4_takeAwayOneTooMany_94 : decode cX4_takeAwayOneTooMany 94 = .ok (.invokestatic 176, 3) := by decide +kernel
theorem dX4_takeAwayOneTooMany_97 : decode cX4_takeAwayOneTooMany 97 = .ok (.return_, 1) := by decide +kernel
theorem dX4_isWorsePlace_0 : decode cX4_isWorsePlace 0 = .ok (.aload_n 0, 1) := by decide +kernel
theorem dX4_isWorsePlace_1 : decode cX4_isWorsePlace 1 = .ok (.aload_n 1, 1) := by decide +kernel
theorem dX4_isWorsePlace_2 : decode cX4_isWorsePlace 2 = .ok (.getfield 233, 3) := by decide +kernel
theorem dX4_isWorsePlace_5 : decode cX4_isWorsePlace 5 = .ok (.invokevirtual 236, 3) := by decide +kernel
theorem dX4_isWorsePlace_8 : decode cX4_isWorsePlace 8 = .ok (.istore_n 3, 1) := by decide +kernel
theorem dX4_isWorsePlace_9 : decode cX4_isWorsePlace 9 = .ok (.aload_n 0, 1) := by decide +kernel
theorem dX4_isWorsePlace_10 : decode cX4_isWorsePlace 10 = .ok (.aload_n 2, 1) := by decide +kernel
theorem dX4_isWorsePlace_11 : decode cX4_isWorsePlace 11 = .ok (.getfield 233, 3) := by decide +kernel
theorem dX4_isWorsePlace_14 : decode cX4_isWorsePlace 14 = .ok (.invokevirtual 236, 3) := by decide +kernel
theorem dX4_isWorsePlace_17 : decode cX4_isWorsePlace 17 = .ok (.istore 4, 2) := by decide +kernel
theorem dX4_isWorsePlace_19 : decode cX4_isWorsePlace 19 = .ok (.iload_n 3, 1) := by decide +kernel
theorem dX4_isWorsePlace_20 : decode cX4_isWorsePlace 20 = .ok (.iload 4, 2) := by decide +kernel
theorem dX4_isWorsePlace_22 : decode cX4_isWorsePlace 22 = .ok (.if_icmp .eq 15, 3) := by decide +kernel
theorem dX4_isWorsePlace_25 : decode cX4_isWorsePlace 25 = .ok (.iload_n 3, 1) := by decide +kernel
theorem dX4_isWorsePlace_26 : decode cX4_isWorsePlace 26 = .ok (.iload 4, 2) := by decide +kernel
theorem dX4_isWorsePlace_28 : decode cX4_isWorsePlace 28 = .ok (.if_icmp .le 7, 3) := by decide +kernel
theorem dX4_isWorsePlace_31 : decode cX4_isWorsePlace 31 = .ok (.iconst 1, 1) := by decide +kernel
theorem dX4_isWorsePlace_32 : decode cX4_isWorsePlace 32 = .ok (.goto 4, 3) := by decide +kernel
theorem dX4_isWorsePlace_35 : decode cX4_isWorsePlace 35 = .ok (.iconst 0, 1) := by decide +kernel
theorem dX4_isWorsePlace_36 : decode cX4_isWorsePlace 36 = .ok (.ireturn, 1) := by decide +kernel
theorem dX4_isWorsePlace_37 : decode cX4_isWorsePlace 37 = .ok (.aload_n 1, 1) := by decide +kernel
theorem dX4_isWorsePlace_38 : decode cX4_isWorsePlace 38 = .ok (.getfield 217, 3) := by decide +kernel
theorem dX4_isWorsePlace_41 : decode cX4_isWorsePlace 41 = .ok (.aload_n 2, 1) := by decide +kernel
theorem dX4_isWorsePlace_42 : decode cX4_isWorsePlace 42 = .ok (.getfield 217, 3) := by decide +kernel
theorem dX4_isWorsePlace_45 : decode cX4_isWorsePlace 45 = .ok (.if_icmp .eq 22, 3) := by decide +kernel
theorem dX4_isWorsePlace_48 : decode cX4_isWorsePlace 48 = .ok (.aload_n 1, 1) := by decide +kernel
theorem dX4_isWorsePlace_49 : decode cX4_isWorsePlace 49 = .ok (.getfield 217, 3) := by decide +kernel
theorem dX4_isWorsePlace_52 : decode cX4_isWorsePlace 52 = .ok (.aload_n 2, 1) := by decide +kernel
theorem dX4_isWorsePlace_53 : decode cX4_isWorsePlace 53 = .ok (.getfield 217, 3) := by decide +kernel
theorem dX4_isWorsePlace_56 : decode cX4_isWorsePlace 56 = .ok (.if_icmp .le 7, 3) := by decide +kernel
theorem dX4_isWorsePlace_59 : decode cX4_isWorsePlace 59 = .ok (.iconst 1, 1) := by decide +kernel
theorem dX4_isWorsePlace_60 : decode cX4_isWorsePlace 60 = .ok (.goto 23, 3) := by decide +kernel
theorem dX4_isWorsePlace_63 : decode cX4_isWorsePlace 63 = .ok (.iconst 0, 1) := by decide +kernel
theorem dX4_isWorsePlace_64 : decode cX4_isWorsePlace 64 = .ok (.goto 19, 3) := by decide +kernel
theorem dX4_isWorsePlace_67 : decode cX4_isWorsePlace 67 = .ok (.aload_n 1, 1) := by decide +kernel
theorem dX4_isWorsePlace_68 : decode cX4_isWorsePlace 68 = .ok (.getfield 62, 3) := by decide +kernel
theorem dX4_isWorsePlace_71 : decode cX4_isWorsePlace 71 = .ok (.aload_n 2, 1) := by decide +kernel
theorem dX4_isWorsePlace_72 : decode cX4_isWorsePlace 72 = .ok (.getfield 62, 3) := by decide +kernel
theorem dX4_isWorsePlace_75 : decode cX4_isWorsePlace 75 = .ok (.if_icmp .le 7, 3) := by decide +kernel
theorem dX4_isWorsePlace_78 : decode cX4_isWorsePlace 78 = .ok (.iconst 1, 1) := by decide +kernel
theorem dX4_isWorsePlace_79 : decode cX4_isWorsePlace 79 = .ok (.goto 4, 3) := by decide +kernel
theorem dX4_isWorsePlace_82 : decode cX4_isWorsePlace 82 = .ok (.iconst 0, 1) := by decide +kernel
theorem dX4_isWorsePlace_83 : decode cX4_isWorsePlace 83 = .ok (.ireturn, 1) := by decide +kernel
theorem dX4_moveOneCopy_0 : decode cX4_moveOneCopy 0 = .ok (.aconst_null, 1) := by decide +kernel
theorem dX4_moveOneCopy_1 : decode cX4_moveOneCopy 1 = .ok (.astore_n 1, 1) := by decide +kernel
theorem dX4_moveOneCopy_2 : decode cX4_moveOneCopy 2 = .ok (.aconst_null, 1) := by decide +kernel
theorem dX4_moveOneCopy_3 : decode cX4_moveOneCopy 3 = .ok (.astore_n 2, 1) := by decide +kernel
theorem dX4_moveOneCopy_4 : decode cX4_moveOneCopy 4 = .ok (.iconst 0, 1) := by decide +kernel
theorem dX4_moveOneCopy_5 : decode cX4_moveOneCopy 5 = .ok (.istore_n 3, 1) := by decide +kernel
theorem dX4_moveOneCopy_6 : decode cX4_moveOneCopy 6 = .ok (.iload_n 3, 1) := by decide +kernel
theorem dX4_moveOneCopy_7 : decode cX4_moveOneCopy 7 = .ok (.aload_n 0, 1) := by decide +kernel
theorem dX4_moveOneCopy_8 : decode cX4_moveOneCopy 8 = .ok (.getfield 10, 3) := by decide +kernel
theorem dX4_moveOneCopy_11 : decode cX4_moveOneCopy 11 = .ok (.invokevirtual 44, 3) := by decide +kernel
theorem dX4_moveOneCopy_14 : decode cX4_moveOneCopy 14 = .ok (.if_icmp .ge 87, 3) := by decide +kernel
theorem dX4_moveOneCopy_17 : decode cX4_moveOneCopy 17 = .ok (.aload_n 0, 1) := by decide +kernel
theorem dX4_moveOneCopy_18 : decode cX4_moveOneCopy 18 = .ok (.getfield 10, 3) := by decide +kernel
theorem dX4_moveOneCopy_21 : decode cX4_moveOneCopy 21 = .ok (.iload_n 3, 1) := by decide +kernel
theorem dX4_moveOneCopy_22 : decode cX4_moveOneCopy 22 = .ok (.invokevirtual 127, 3) := by decide +kernel
theorem dX4_moveOneCopy_25 : decode cX4_moveOneCopy 25 = .ok (.checkcast 53, 3) := by decide +kernel
theorem dX4_moveOneCopy_28 : decode cX4_moveOneCopy 28 = .ok (.astore 4, 2) := by decide +kernel
theorem dX4_moveOneCopy_30 : decode cX4_moveOneCopy 30 = .ok (.aload 4, 2) := by decide +kernel
theorem dX4_moveOneCopy_32 : decode cX4_moveOneCopy 32 = .ok (.getfield 220, 3) := by decide +kernel
theorem dX4_moveOneCopy_35 : decode cX4_moveOneCopy 35 = .ok (.ifCond .eq 60, 3) := by decide +kernel
theorem dX4_moveOneCopy_38 : decode cX4_moveOneCopy 38 = .ok (.aload 4, 2) := by decide +kernel
theorem dX4_moveOneCopy_40 : decode cX4_moveOneCopy 40 = .ok (.getfield 69, 3) := by decide +kernel
theorem dX4_moveOneCopy_43 : decode cX4_moveOneCopy 43 = .ok (.ifCond .ne 6, 3) := by decide +kernel
theorem dX4_moveOneCopy_46 : decode cX4_moveOneCopy 46 = .ok (.goto 49, 3) := by decide +kernel
theorem dX4_moveOneCopy_49 : decode cX4_moveOneCopy 49 = .ok (.aload_n 1, 1) := by decide +kernel
theorem dX4_moveOneCopy_50 : decode cX4_moveOneCopy 50 = .ok (.ifnull 15, 3) := by decide +kernel
theorem dX4_moveOneCopy_53 : decode cX4_moveOneCopy 53 = .ok (.aload 4, 2) := by decide +kernel
theorem dX4_moveOneCopy_55 : decode cX4_moveOneCopy 55 = .ok (.getfield 217, 3) := by decide +kernel
theorem dX4_moveOneCopy_58 : decode cX4_moveOneCopy 58 = .ok (.aload_n 1, 1) := by decide +kernel
theorem dX4_moveOneCopy_59 : decode cX4_moveOneCopy 59 = .ok (.getfield 217, 3) := by decide +kernel
theorem dX4_moveOneCopy_62 : decode cX4_moveOneCopy 62 = .ok (.if_icmp .le 8, 3) := by decide +kernel
theorem dX4_moveOneCopy_65 : decode cX4_moveOneCopy 65 = .ok (.aload 4, 2) := by decide +kernel
theorem dX4_moveOneCopy_67 : decode cX4_moveOneCopy 67 = .ok (.goto 4, 3) := by decide +kernel
theorem dX4_moveOneCopy_70 : decode cX4_moveOneCopy 70 = .ok (.aload_n 1, 1) := by decide +kernel
theorem dX4_moveOneCopy_71 : decode cX4_moveOneCopy 71 = .ok (.astore_n 1, 1) := by decide +kernel
theorem dX4_moveOneCopy_72 : decode cX4_moveOneCopy 72 = .ok (.aload_n 2, 1) := by decide +kernel
theorem dX4_moveOneCopy_73 : decode cX4_moveOneCopy 73 = .ok (.ifnull 15, 3) := by decide +kernel
theorem dX4_moveOneCopy_76 : decode cX4_moveOneCopy 76 = .ok (.aload 4, 2) := by decide +kernel
theorem dX4_moveOneCopy_78 : decode cX4_moveOneCopy 78 = .ok (.getfield 217, 3) := by decide +kernel
theorem dX4_moveOneCopy_81 : decode cX4_moveOneCopy 81 = .ok (.aload_n 2, 1) := by decide +kernel
theorem dX4_moveOneCopy_82 : decode cX4_moveOneCopy 82 = .ok (.getfield 217, 3) := by decide +kernel
theorem dX4_moveOneCopy_85 : decode cX4_moveOneCopy 85 = .ok (.if_icmp .ge 8, 3) := by decide +kernel
theorem dX4_moveOneCopy_88 : decode cX4_moveOneCopy 88 = .ok (.aload 4, 2) := by decide +kernel
theorem dX4_moveOneCopy_90 : decode cX4_moveOneCopy 90 = .ok (.goto 4, 3) := by decide +kernel
theorem dX4_moveOneCopy_93 : decode cX4_moveOneCopy 93 = .ok (.aload_n 2, 1) := by decide +kernel
theorem dX4_moveOneCopy_94 : decode cX4_moveOneCopy 94 = .ok (.astore_n 2, 1) := by decide +kernel
theorem dX4_moveOneCopy_95 : decode cX4_moveOneCopy 95 = .ok (.iinc 3 1, 3) := by decide +kernel
theorem dX4_moveOneCopy_98 : decode cX4_moveOneCopy 98 = .ok (.goto (-92), 3) := by decide +kernel
theorem dX4_moveOneCopy_101 : decode cX4_moveOneCopy 101 = .ok (.aload_n 1, 1) := by decide +kernel
theorem dX4_moveOneCopy_102 : decode cX4_moveOneCopy 102 = .ok (.ifnull 27, 3) := by decide +kernel
theorem dX4_moveOneCopy_105 : decode cX4_moveOneCopy 105 = .ok (.aload_n 2, 1) := by decide +kernel
theorem dX4_moveOneCopy_106 : decode cX4_moveOneCopy 106 = .ok (.ifnull 23, 3) := by decide +kernel
theorem dX4_moveOneCopy_109 : decode cX4_moveOneCopy 109 = .ok (.aload_n 1, 1) := by decide +kernel
theorem dX4_moveOneCopy_110 : decode cX4_moveOneCopy 110 = .ok (.getfield 217, 3) := by decide +kernel
theorem dX4_moveOneCopy_113 : decode cX4_moveOneCopy 113 = .ok (.aload_n 2, 1) := by decide +kernel
theorem dX4_moveOneCopy_114 : decode cX4_moveOneCopy 114 = .ok (.getfield 217, 3) := by decide +kernel
theorem dX4_moveOneCopy_117 : decode cX4_moveOneCopy 117 = .ok (.iconst 2, 1) := by decide +kernel
theorem dX4_moveOneCopy_118 : decode cX4_moveOneCopy 118 = .ok (.iadd, 1) := by decide +kernel
theorem dX4_moveOneCopy_119 : decode cX4_moveOneCopy 119 = .ok (.if_icmp .lt 10, 3) := by decide +kernel
theorem dX4_moveOneCopy_122 : decode cX4_moveOneCopy 122 = .ok (.aload_n 2, 1) := by decide +kernel
theorem dX4_moveOneCopy_123 : decode cX4_moveOneCopy 123 = .ok (.invokevirtual 261, 3) := by decide +kernel
theorem dX4_moveOneCopy_126 : decode cX4_moveOneCopy 126 = .ok (.ifCond .ne 4, 3) := by decide +kernel
theorem dX4_moveOneCopy_129 : decode cX4_moveOneCopy 129 = .ok (.return_, 1) := by decide +kernel
theorem dX4_moveOneCopy_130 : decode cX4_moveOneCopy 130 = .ok (.iconst 0, 1) := by decide +kernel
theorem dX4_moveOneCopy_131 : decode cX4_moveOneCopy 131 = .ok (.istore_n 3, 1) := by decide +kernel
theorem dX4_moveOneCopy_132 : decode cX4_moveOneCopy 132 = .ok (.iload_n 3, 1) := by decide +kernel
theorem dX4_moveOneCopy_133 : decode cX4_moveOneCopy 133 = .ok (.aload_n 0, 1) := by decide +kernel
theorem dX4_moveOneCopy_134 : decode cX4_moveOneCopy 134 = .ok (.getfield 16, 3) := by decide +kernel
theorem dX4_moveOneCopy_137 : decode cX4_moveOneCopy 137 = .ok (.invokevirtual 44, 3) := by decide +kernel
theorem dX4_moveOneCopy_140 : decode cX4_moveOneCopy 140 = .ok (.if_icmp .ge 40, 3) := by decide +kernel
theorem dX4_moveOneCopy_143 : decode cX4_moveOneCopy 143 = .ok (.aload_n 0, 1) := by decide +kernel
theorem dX4_moveOneCopy_144 : decode cX4_moveOneCopy 144 = .ok (.getfield 16, 3) := by decide +kernel
theorem dX4_moveOneCopy_147 : decode cX4_moveOneCopy 147 = .ok (.iload_n 3, 1) := by decide +kernel
theorem dX4_moveOneCopy_148 : decode cX4_moveOneCopy 148 = .ok (.invokevirtual 127, 3) := by decide +kernel
theorem dX4_moveOneCopy_151 : decode cX4_moveOneCopy 151 = .ok (.checkcast 131, 3) := by decide +kernel
theorem dX4_moveOneCopy_154 : decode cX4_moveOneCopy 154 = .ok (.astore 4, 2) := by decide +kernel
theorem dX4_moveOneCopy_156 : decode cX4_moveOneCopy 156 = .ok (.aload 4, 2) := by decide +kernel
theorem dX4_moveOneCopy_158 : decode cX4_moveOneCopy 158 = .ok (.aload_n 1, 1) := by decide +kernel
theorem dX4_moveOneCopy_159 : decode cX4_moveOneCopy 159 = .ok (.aload_n 2, 1) := by decide +kernel
theorem dX4_moveOneCopy_160 : decode cX4_moveOneCopy 160 = .ok (.invokestatic 393, 3) := by decide +kernel
theorem dX4_moveOneCopy_163 : decode cX4_moveOneCopy 163 = .ok (.ifCond .eq 11, 3) := by decide +kernel
theorem dX4_moveOneCopy_166 : decode cX4_moveOneCopy 166 = .ok (.aload 4, 2) := by decide +kernel
theorem dX4_moveOneCopy_168 : decode cX4_moveOneCopy 168 = .ok (.aload_n 1, 1) := by decide +kernel
theorem dX4_moveOneCopy_169 : decode cX4_moveOneCopy 169 = .ok (.aload_n 2, 1) := by decide +kernel
theorem dX4_moveOneCopy_170 : decode cX4_moveOneCopy 170 = .ok (.invokestatic 396, 3) := by decide +kernel
theorem dX4_moveOneCopy_173 : decode cX4_moveOneCopy 173 = .ok (.return_, 1) := by decide +kernel
theorem dX4_moveOneCopy_174 : decode cX4_moveOneCopy 174 = .ok (.iinc 3 1, 3) := by decide +kernel
theorem dX4_moveOneCopy_177 : decode cX4_moveOneCopy 177 = .ok (.goto (-45), 3) := by decide +kernel
theorem dX4_moveOneCopy_180 : decode cX4_moveOneCopy 180 = .ok (.return_, 1) := by decide +kernel
theorem dX4_canMove_0 : decode cX4_canMove 0 = .ok (.aload_n 1, 1) := by decide +kernel
theorem dX4_canMove_1 : decode cX4_canMove 1 = .ok (.aload_n 0, 1) := by decide +kernel
theorem dX4_canMove_2 : decode cX4_canMove 2 = .ok (.invokevirtual 82, 3) := by decide +kernel
theorem dX4_canMove_5 : decode cX4_canMove 5 = .ok (.astore_n 3, 1) := by decide +kernel
theorem dX4_canMove_6 : decode cX4_canMove 6 = .ok (.aload_n 3, 1) := by decide +kernel
theorem dX4_canMove_7 : decode cX4_canMove 7 = .ok (.ifnull 30, 3) := by decide +kernel
theorem dX4_canMove_10 : decode cX4_canMove 10 = .ok (.aload_n 3, 1) := by decide +kernel
theorem dX4_canMove_11 : decode cX4_canMove 11 = .ok (.getfield 214, 3) := by decide +kernel
theorem dX4_canMove_14 : decode cX4_canMove 14 = .ok (.ifCond .ne 23, 3) := by decide +kernel
theorem dX4_canMove_17 : decode cX4_canMove 17 = .ok (.aload_n 0, 1) := by decide +kernel
theorem dX4_canMove_18 : decode cX4_canMove 18 = .ok (.aload_n 1, 1) := by decide +kernel
theorem dX4_canMove_19 : decode cX4_canMove 19 = .ok (.invokevirtual 363, 3) := by decide +kernel
theorem dX4_canMove_22 : decode cX4_canMove 22 = .ok (.ifCond .eq 15, 3) := by decide +kernel
theorem dX4_canMove_25 : decode cX4_canMove 25 = .ok (.aload_n 1, 1) := by decide +kernel
theorem dX4_canMove_26 : decode cX4_canMove 26 = .ok (.aload_n 0, 1) := by decide +kernel
theorem dX4_canMove_27 : decode cX4_canMove 27 = .ok (.invokestatic 257, 3) := by decide +kernel
theorem dX4_canMove_30 : decode cX4_canMove 30 = .ok (.ifCond .eq 7, 3) := by decide +kernel
theorem dX4_canMove_33 : decode cX4_canMove 33 = .ok (.iconst 1, 1) := by decide +kernel
theorem dX4_canMove_34 : decode cX4_canMove 34 = .ok (.goto 4, 3) := by decide +kernel
theorem dX4_canMove_37 : decode cX4_canMove 37 = .ok (.iconst 0, 1) := by decide +kernel
theorem dX4_canMove_38 : decode cX4_canMove 38 = .ok (.istore 4, 2) := by decide +kernel
theorem dX4_canMove_40 : decode cX4_canMove 40 = .ok (.iload 4, 2) := by decide +kernel
theorem dX4_canMove_42 : decode cX4_canMove 42 = .ok (.ifCond .eq 22, 3) := by decide +kernel
theorem dX4_canMove_45 : decode cX4_canMove 45 = .ok (.aload_n 0, 1) := by decide +kernel
theorem dX4_canMove_46 : decode cX4_canMove 46 = .ok (.invokevirtual 225, 3) := by decide +kernel
theorem dX4_canMove_49 : decode cX4_canMove 49 = .ok (.ifCond .ne 15, 3) := by decide +kernel
theorem dX4_canMove_52 : decode cX4_canMove 52 = .ok (.aload_n 2, 1) := by decide +kernel
theorem dX4_canMove_53 : decode cX4_canMove 53 = .ok (.aload_n 0, 1) := by decide +kernel
theorem dX4_canMove_54 : decode cX4_canMove 54 = .ok (.invokevirtual 264, 3) := by decide +kernel
theorem dX4_canMove_57 : decode cX4_canMove 57 = .ok (.ifCond .ne 7, 3) := by decide +kernel
theorem dX4_canMove_60 : decode cX4_canMove 60 = .ok (.iconst 1, 1) := by decide +kernel
theorem dX4_canMove_61 : decode cX4_canMove 61 = .ok (.goto 4, 3) := by decide +kernel
theorem dX4_canMove_64 : decode cX4_canMove 64 = .ok (.iconst 0, 1) := by decide +kernel
theorem dX4_canMove_65 : decode cX4_canMove 65 = .ok (.ireturn, 1) := by decide +kernel
theorem dX4_moveCopy_0 : decode cX4_moveCopy 0 = .ok (.aload_n 1, 1) := by decide +kernel
theorem dX4_moveCopy_1 : decode cX4_moveCopy 1 = .ok (.aload_n 0, 1) := by decide +kernel
theorem dX4_moveCopy_2 : decode cX4_moveCopy 2 = .ok (.invokevirtual 82, 3) := by decide +kernel
theorem dX4_moveCopy_5 : decode cX4_moveCopy 5 = .ok (.astore_n 3, 1) := by decide +kernel
theorem dX4_moveCopy_6 : decode cX4_moveCopy 6 = .ok (.aload_n 2, 1) := by decide +kernel
theorem dX4_moveCopy_7 : decode cX4_moveCopy 7 = .ok (.aload_n 0, 1) := by decide +kernel
theorem dX4_moveCopy_8 : decode cX4_moveCopy 8 = .ok (.invokevirtual 271, 3) := by decide +kernel
theorem dX4_moveCopy_11 : decode cX4_moveCopy 11 = .ok (.astore 4, 2) := by decide +kernel
theorem dX4_moveCopy_13 : decode cX4_moveCopy 13 = .ok (.aload_n 3, 1) := by decide +kernel
theorem dX4_moveCopy_14 : decode cX4_moveCopy 14 = .ok (.ifnull 8, 3) := by decide +kernel
theorem dX4_moveCopy_17 : decode cX4_moveCopy 17 = .ok (.aload 4, 2) := by decide +kernel
theorem dX4_moveCopy_19 : decode cX4_moveCopy 19 = .ok (.ifnonnull 4, 3) := by decide +kernel
theorem dX4_moveCopy_22 : decode cX4_moveCopy 22 = .ok (.return_, 1) := by decide +kernel
theorem dX4_moveCopy_23 : decode cX4_moveCopy 23 = .ok (.aload 4, 2) := by decide +kernel
theorem dX4_moveCopy_25 : decode cX4_moveCopy 25 = .ok (.aload_n 3, 1) := by decide +kernel
theorem dX4_moveCopy_26 : decode cX4_moveCopy 26 = .ok (.invokevirtual 274, 3) := by decide +kernel
theorem dX4_moveCopy_29 : decode cX4_moveCopy 29 = .ok (.aload_n 0, 1) := by decide +kernel
theorem dX4_moveCopy_30 : decode cX4_moveCopy 30 = .ok (.aload_n 1, 1) := by decide +kernel
theorem dX4_moveCopy_31 : decode cX4_moveCopy 31 = .ok (.aload_n 2, 1) := by decide +kernel
theorem dX4_moveCopy_32 : decode cX4_moveCopy 32 = .ok (.invokevirtual 400, 3) := by decide +kernel
theorem dX4_moveCopy_35 : decode cX4_moveCopy 35 = .ok (.aload_n 1, 1) := by decide +kernel
theorem dX4_moveCopy_36 : decode cX4_moveCopy 36 = .ok (.aload_n 3, 1) := by decide +kernel
theorem dX4_moveCopy_37 : decode cX4_moveCopy 37 = .ok (.invokevirtual 282, 3) := by decide +kernel
theorem dX4_moveCopy_40 : decode cX4_moveCopy 40 = .ok (.return_, 1) := by decide +kernel
