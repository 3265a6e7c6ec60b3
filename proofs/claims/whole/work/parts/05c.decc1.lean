theorem dX5_parts_24 : decode cX5_parts 24 = .ok (.istore 5, 2) := by decide +kernel
theorem dX5_parts_26 : decode cX5_parts 26 = .ok (.iconst 0, 1) := by decide +kernel
theorem dX5_parts_27 : decode cX5_parts 27 = .ok (.istore 6, 2) := by decide +kernel
theorem dX5_parts_29 : decode cX5_parts 29 = .ok (.iload 6, 2) := by decide +kernel
theorem dX5_parts_31 : decode cX5_parts 31 = .ok (.aload_n 0, 1) := by decide +kernel
theorem dX5_parts_32 : decode cX5_parts 32 = .ok (.getfield 45, 3) := by decide +kernel
theorem dX5_parts_35 : decode cX5_parts 35 = .ok (.iload_n 3, 1) := by decide +kernel
theorem dX5_parts_36 : decode cX5_parts 36 = .ok (.iaload, 1) := by decide +kernel
theorem dX5_parts_37 : decode cX5_parts 37 = .ok (.if_icmp .ge 68, 3) := by decide +kernel
theorem dX5_parts_40 : decode cX5_parts 40 = .ok (.aload_n 0, 1) := by decide +kernel
theorem dX5_parts_41 : decode cX5_parts 41 = .ok (.getfield 48, 3) := by decide +kernel
theorem dX5_parts_44 : decode cX5_parts 44 = .ok (.bipush 8, 2) := by decide +kernel
theorem dX5_parts_46 : decode cX5_parts 46 = .ok (.iload_n 3, 1) := by decide +kernel
theorem dX5_parts_47 : decode cX5_parts 47 = .ok (.imul, 1) := by decide +kernel
theorem dX5_parts_48 : decode cX5_parts 48 = .ok (.iload 6, 2) := by decide +kernel
theorem dX5_parts_50 : decode cX5_parts 50 = .ok (.iadd, 1) := by decide +kernel
theorem dX5_parts_51 : decode cX5_parts 51 = .ok (.iaload, 1) := by decide +kernel
theorem dX5_parts_52 : decode cX5_parts 52 = .ok (.istore 7, 2) := by decide +kernel
theorem dX5_parts_54 : decode cX5_parts 54 = .ok (.aload_n 0, 1) := by decide +kernel
theorem dX5_parts_55 : decode cX5_parts 55 = .ok (.iload_n 3, 1) := by decide +kernel
theorem dX5_parts_56 : decode cX5_parts 56 = .ok (.iload 7, 2) := by decide +kernel
theorem dX5_parts_58 : decode cX5_parts 58 = .ok (.invokevirtual 123, 3) := by decide +kernel
theorem dX5_parts_61 : decode cX5_parts 61 = .ok (.ifCond .eq 38, 3) := by decide +kernel
theorem dX5_parts_64 : decode cX5_parts 64 = .ok (.aload_n 0, 1) := by decide +kernel
theorem dX5_parts_65 : decode cX5_parts 65 = .ok (.iload 7, 2) := by decide +kernel
theorem dX5_parts_67 : decode cX5_parts 67 = .ok (.invokevirtual 127, 3) := by decide +kernel
theorem dX5_parts_70 : decode cX5_parts 70 = .ok (.aload_n 0, 1) := by decide +kernel
theorem dX5_parts_71 : decode cX5_parts 71 = .ok (.getfield 17, 3) := by decide +kernel
theorem dX5_parts_74 : decode cX5_parts 74 = .ok (.iload 7, 2) := by decide +kernel
theorem dX5_parts_76 : decode cX5_parts 76 = .ok (.iaload, 1) := by decide +kernel
theorem dX5_parts_77 : decode cX5_parts 77 = .ok (.if_icmp .ge 22, 3) := by decide +kernel
theorem dX5_parts_80 : decode cX5_parts 80 = .ok (.aload_n 0, 1) := by decide +kernel
theorem dX5_parts_81 : decode cX5_parts 81 = .ok (.iload 7, 2) := by decide +kernel
theorem dX5_parts_83 : decode cX5_parts 83 = .ok (.iload 5, 2) := by decide +kernel
theorem dX5_parts_85 : decode cX5_parts 85 = .ok (.iload 4, 2) := by decide +kernel
theorem dX5_parts_87 : decode cX5_parts 87 = .ok (.iload_n 3, 1) := by decide +kernel
theorem dX5_parts_88 : decode cX5_parts 88 = .ok (.invokevirtual 166, 3) := by decide +kernel
theorem dX5_parts_91 : decode cX5_parts 91 = .ok (.aload_n 0, 1) := by decide +kernel
theorem dX5_parts_92 : decode cX5_parts 92 = .ok (.iload 5, 2) := by decide +kernel
theorem dX5_parts_94 : decode cX5_parts 94 = .ok (.iload 7, 2) := by decide +kernel
theorem dX5_parts_96 : decode cX5_parts 96 = .ok (.invokevirtual 170, 3) := by decide +kernel
theorem dX5_parts_99 : decode cX5_parts 99 = .ok (.iinc 6 1, 3) := by decide +kernel
theorem dX5_parts_102 : decode cX5_parts 102 = .ok (.goto (-73), 3) := by decide +kernel
theorem dX5_parts_105 : decode cX5_parts 105 = .ok (.aload_n 0, 1) := by decide +kernel
theorem dX5_parts_106 : decode cX5_parts 106 = .ok (.getfield 72, 3) := by decide +kernel
theorem dX5_parts_109 : decode cX5_parts 109 = .ok (.bipush 6, 2) := by decide +kernel
theorem dX5_parts_111 : decode cX5_parts 111 = .ok (.iload_n 1, 1) := by decide +kernel
theorem dX5_parts_112 : decode cX5_parts 112 = .ok (.imul, 1) := by decide +kernel
theorem dX5_parts_113 : decode cX5_parts 113 = .ok (.iload_n 2, 1) := by decide +kernel
theorem dX5_parts_114 : decode cX5_parts 114 = .ok (.iadd, 1) := by decide +kernel
theorem dX5_parts_115 : decode cX5_parts 115 = .ok (.iload 5, 2) := by decide +kernel
theorem dX5_parts_117 : decode cX5_parts 117 = .ok (.iastore, 1) := by decide +kernel
theorem dX5_parts_118 : decode cX5_parts 118 = .ok (.iload 5, 2) := by decide +kernel
theorem dX5_parts_120 : decode cX5_parts 120 = .ok (.ireturn, 1) := by decide +kernel
theorem dX5_leases_0 : decode cX5_leases 0 = .ok (.iconst 0, 1) := by decide +kernel
theorem dX5_leases_1 : decode cX5_leases 1 = .ok (.istore_n 2, 1) := by decide +kernel
theorem dX5_leases_2 : decode cX5_leases 2 = .ok (.iload_n 2, 1) := by decide +kernel
theorem dX5_leases_3 : decode cX5_leases 3 = .ok (.aload_n 0, 1) := by decide +kernel
theorem dX5_leases_4 : decode cX5_leases 4 = .ok (.getfield 78, 3) := by decide +kernel
theorem dX5_leases_7 : decode cX5_leases 7 = .ok (.if_icmp .ge 24, 3) := by decide +kernel
theorem dX5_leases_10 : decode cX5_leases 10 = .ok (.aload_n 0, 1) := by decide +kernel
theorem dX5_leases_11 : decode cX5_leases 11 = .ok (.getfield 20, 3) := by decide +kernel
theorem dX5_leases_14 : decode cX5_leases 14 = .ok (.iload_n 2, 1) := by decide +kernel
theorem dX5_leases_15 : decode cX5_leases 15 = .ok (.baload, 1) := by decide +kernel
theorem dX5_leases_16 : decode cX5_leases 16 = .ok (.ifCond .ne 9, 3) := by decide +kernel
theorem dX5_leases_19 : decode cX5_leases 19 = .ok (.aload_n 0, 1) := by decide +kernel
theorem dX5_leases_20 : decode cX5_leases 20 = .ok (.iload_n 1, 1) := by decide +kernel
theorem dX5_leases_21 : decode cX5_leases 21 = .ok (.iload_n 2, 1) := by decide +kernel
theorem dX5_leases_22 : decode cX5_leases 22 = .ok (.invokevirtual 115, 3) := by decide +kernel
theorem dX5_leases_25 : decode cX5_leases 25 = .ok (.iinc 2 1, 3) := by decide +kernel
theorem dX5_leases_28 : decode cX5_leases 28 = .ok (.goto (-26), 3) := by decide +kernel
theorem dX5_leases_31 : decode cX5_leases 31 = .ok (.aload_n 0, 1) := by decide +kernel
theorem dX5_leases_32 : decode cX5_leases 32 = .ok (.getfield 33, 3) := by decide +kernel
theorem dX5_leases_35 : decode cX5_leases 35 = .ok (.iload_n 1, 1) := by decide +kernel
theorem dX5_leases_36 : decode cX5_leases 36 = .ok (.dup2, 1) := by decide +kernel
theorem dX5_leases_37 : decode cX5_leases 37 = .ok (.iaload, 1) := by decide +kernel
theorem dX5_leases_38 : decode cX5_leases 38 = .ok (.iconst 1, 1) := by decide +kernel
theorem dX5_leases_39 : decode cX5_leases 39 = .ok (.iadd, 1) := by decide +kernel
theorem dX5_leases_40 : decode cX5_leases 40 = .ok (.iastore, 1) := by decide +kernel
theorem dX5_leases_41 : decode cX5_leases 41 = .ok (.iconst 0, 1) := by decide +kernel
theorem dX5_leases_42 : decode cX5_leases 42 = .ok (.istore_n 2, 1) := by decide +kernel
theorem dX5_leases_43 : decode cX5_leases 43 = .ok (.iload_n 2, 1) := by decide +kernel
theorem dX5_leases_44 : decode cX5_leases 44 = .ok (.aload_n 0, 1) := by decide +kernel
theorem dX5_leases_45 : decode cX5_leases 45 = .ok (.getfield 45, 3) := by decide +kernel
theorem dX5_leases_48 : decode cX5_leases 48 = .ok (.iload_n 1, 1) := by decide +kernel
theorem dX5_leases_49 : decode cX5_leases 49 = .ok (.iaload, 1) := by decide +kernel
theorem dX5_leases_50 : decode cX5_leases 50 = .ok (.if_icmp .ge 35, 3) := by decide +kernel
theorem dX5_leases_53 : decode cX5_leases 53 = .ok (.aload_n 0, 1) := by decide +kernel
theorem dX5_leases_54 : decode cX5_leases 54 = .ok (.getfield 51, 3) := by decide +kernel
theorem dX5_leases_57 : decode cX5_leases 57 = .ok (.aload_n 0, 1) := by decide +kernel
theorem dX5_leases_58 : decode cX5_leases 58 = .ok (.getfield 48, 3) := by decide +kernel
theorem dX5_leases_61 : decode cX5_leases 61 = .ok (.bipush 8, 2) := by decide +kernel
theorem dX5_leases_63 : decode cX5_leases 63 = .ok (.iload_n 1, 1) := by decide +kernel
theorem dX5_leases_64 : decode cX5_leases 64 = .ok (.imul, 1) := by decide +kernel
theorem dX5_leases_65 : decode cX5_leases 65 = .ok (.iload_n 2, 1) := by decide +kernel
theorem dX5_leases_66 : decode cX5_leases 66 = .ok (.iadd, 1) := by decide +kernel
theorem dX5_leases_67 : decode cX5_leases 67 = .ok (.iaload, 1) := by decide +kernel
theorem dX5_leases_68 : decode cX5_leases 68 = .ok (.iload_n 1, 1) := by decide +kernel
theorem dX5_leases_69 : decode cX5_leases 69 = .ok (.invokestatic 104, 3) := by decide +kernel
theorem dX5_leases_72 : decode cX5_leases 72 = .ok (.aload_n 0, 1) := by decide +kernel
theorem dX5_leases_73 : decode cX5_leases 73 = .ok (.getfield 33, 3) := by decide +kernel
theorem dX5_leases_76 : decode cX5_leases 76 = .ok (.iload_n 1, 1) := by decide +kernel
theorem dX5_leases_77 : decode cX5_leases 77 = .ok (.iaload, 1) := by decide +kernel
theorem dX5_leases_78 : decode cX5_leases 78 = .ok (.iastore, 1) := by decide +kernel
theorem dX5_leases_79 : decode cX5_leases 79 = .ok (.iinc 2 1, 3) := by decide +kernel
theorem dX5_leases_82 : decode cX5_leases 82 = .ok (.goto (-39), 3) := by decide +kernel
theorem dX5_leases_85 : decode cX5_leases 85 = .ok (.aload_n 0, 1) := by decide +kernel
theorem dX5_leases_86 : decode cX5_leases 86 = .ok (.getfield 36, 3) := by decide +kernel
theorem dX5_leases_89 : decode cX5_leases 89 = .ok (.iload_n 1, 1) := by decide +kernel
theorem dX5_leases_90 : decode cX5_leases 90 = .ok (.aload_n 0, 1) := by decide +kernel
theorem dX5_leases_91 : decode cX5_leases 91 = .ok (.getfield 48, 3) := by decide +kernel
theorem dX5_leases_94 : decode cX5_leases 94 = .ok (.bipush 8, 2) := by decide +kernel
theorem dX5_leases_96 : decode cX5_leases 96 = .ok (.iload_n 1, 1) := by decide +kernel
theorem dX5_leases_97 : decode cX5_leases 97 = .ok (.imul, 1) := by decide +kernel
theorem dX5_leases_98 : decode cX5_leases 98 = .ok (.iaload, 1) := by decide +kernel
theorem dX5_leases_99 : decode cX5_leases 99 = .ok (.iastore, 1) := by decide +kernel
theorem dX5_leases_100 : decode cX5_leases 100 = .ok (.aload_n 0, 1) := by decide +kernel
theorem dX5_leases_101 : decode cX5_leases 101 = .ok (.getfield 39, 3) := by decide +kernel
theorem dX5_leases_104 : decode cX5_leases 104 = .ok (.iload_n 1, 1) := by decide +kernel
theorem dX5_leases_105 : decode cX5_leases 105 = .ok (.aload_n 0, 1) := by decide +kernel
theorem dX5_leases_106 : decode cX5_leases 106 = .ok (.getfield 98, 3) := by decide +kernel
theorem dX5_leases_109 : decode cX5_leases 109 = .ok (.bipush 10, 2) := by decide +kernel
theorem dX5_leases_111 : decode cX5_leases 111 = .ok (.iadd, 1) := by decide +kernel
theorem dX5_leases_112 : decode cX5_leases 112 = .ok (.iastore, 1) := by decide +kernel
theorem dX5_leases_113 : decode cX5_leases 113 = .ok (.return_, 1) := by decide +kernel
theorem dX5_writes_0 : decode cX5_writes 0 = .ok (.iload_n 1, 1) := by decide +kernel
theorem dX5_writes_1 : decode cX5_writes 1 = .ok (.iload_n 2, 1) := by decide +kernel
theorem dX5_writes_2 : decode cX5_writes 2 = .ok (.invokestatic 104, 3) := by decide +kernel
theorem dX5_writes_5 : decode cX5_writes 5 = .ok (.istore 5, 2) := by decide +kernel
theorem dX5_writes_7 : decode cX5_writes 7 = .ok (.aload_n 0, 1) := by decide +kernel
theorem dX5_writes_8 : decode cX5_writes 8 = .ok (.getfield 54, 3) := by decide +kernel
theorem dX5_writes_11 : decode cX5_writes 11 = .ok (.iload 5, 2) := by decide +kernel
theorem dX5_writes_13 : decode cX5_writes 13 = .ok (.iaload, 1) := by decide +kernel
theorem dX5_writes_14 : decode cX5_writes 14 = .ok (.istore 6, 2) := by decide +kernel
theorem dX5_writes_16 : decode cX5_writes 16 = .ok (.iload 6, 2) := by decide +kernel
theorem dX5_writes_18 : decode cX5_writes 18 = .ok (.iload_n 3, 1) := by decide +kernel
theorem dX5_writes_19 : decode cX5_writes 19 = .ok (.if_icmp .ge 22, 3) := by decide +kernel
theorem dX5_writes_22 : decode cX5_writes 22 = .ok (.aload_n 0, 1) := by decide +kernel
theorem dX5_writes_23 : decode cX5_writes 23 = .ok (.getfield 57, 3) := by decide +kernel
theorem dX5_writes_26 : decode cX5_writes 26 = .ok (.iconst 4, 1) := by decide +kernel
theorem dX5_writes_27 : decode cX5_writes 27 = .ok (.iload 5, 2) := by decide +kernel
theorem dX5_writes_29 : decode cX5_writes 29 = .ok (.imul, 1) := by decide +kernel
theorem dX5_writes_30 : decode cX5_writes 30 = .ok (.iload 6, 2) := by decide +kernel
theorem dX5_writes_32 : decode cX5_writes 32 = .ok (.iadd, 1) := by decide +kernel
theorem dX5_writes_33 : decode cX5_writes 33 = .ok (.iconst (-1), 1) := by decide +kernel
theorem dX5_writes_34 : decode cX5_writes 34 = .ok (.iastore, 1) := by decide +kernel
theorem dX5_writes_35 : decode cX5_writes 35 = .ok (.iinc 6 1, 3) := by decide +kernel
theorem dX5_writes_38 : decode cX5_writes 38 = .ok (.goto (-22), 3) := by decide +kernel
theorem dX5_writes_41 : decode cX5_writes 41 = .ok (.aload_n 0, 1) := by decide +kernel
theorem dX5_writes_42 : decode cX5_writes 42 = .ok (.getfield 54, 3) := by decide +kernel
theorem dX5_writes_45 : decode cX5_writes 45 = .ok (.iload 5, 2) := by decide +kernel
theorem dX5_writes_47 : decode cX5_writes 47 = .ok (.aload_n 0, 1) := by decide +kernel
theorem dX5_writes_48 : decode cX5_writes 48 = .ok (.getfield 54, 3) := by decide +kernel
theorem dX5_writes_51 : decode cX5_writes 51 = .ok (.iload 5, 2) := by decide +kernel
theorem dX5_writes_53 : decode cX5_writes 53 = .ok (.iaload, 1) := by decide +kernel
theorem dX5_writes_54 : decode cX5_writes 54 = .ok (.iload_n 3, 1) := by decide +kernel
theorem dX5_writes_55 : decode cX5_writes 55 = .ok (.if_icmp .le 13, 3) := by decide +kernel
theorem dX5_writes_58 : decode cX5_writes 58 = .ok (.aload_n 0, 1) := by decide +kernel
theorem dX5_writes_59 : decode cX5_writes 59 = .ok (.getfield 54, 3) := by decide +kernel
theorem dX5_writes_62 : decode cX5_writes 62 = .ok (.iload 5, 2) := by decide +kernel
theorem dX5_writes_64 : decode cX5_writes 64 = .ok (.iaload, 1) := by decide +kernel
theorem dX5_writes_65 : decode cX5_writes 65 = .ok (.goto 6, 3) := by decide +kernel
theorem dX5_writes_68 : decode cX5_writes 68 = .ok (.iload_n 3, 1) := by decide +kernel
theorem dX5_writes_69 : decode cX5_writes 69 = .ok (.iconst 1, 1) := by decide +kernel
theorem dX5_writes_70 : decode cX5_writes 70 = .ok (.iadd, 1) := by decide +kernel
theorem dX5_writes_71 : decode cX5_writes 71 = .ok (.iastore, 1) := by decide +kernel
theorem dX5_writes_72 : decode cX5_writes 72 = .ok (.aload_n 0, 1) := by decide +kernel
theorem dX5_writes_73 : decode cX5_writes 73 = .ok (.getfield 57, 3) := by decide +kernel
theorem dX5_writes_76 : decode cX5_writes 76 = .ok (.iconst 4, 1) := by decide +kernel
theorem dX5_writes_77 : decode cX5_writes 77 = .ok (.iload 5, 2) := by decide +kernel
theorem dX5_writes_79 : decode cX5_writes 79 = .ok (.imul, 1) := by decide +kernel
theorem dX5_writes_80 : decode cX5_writes 80 = .ok (.iload_n 3, 1) := by decide +kernel
theorem dX5_writes_81 : decode cX5_writes 81 = .ok (.iadd, 1) := by decide +kernel
theorem dX5_writes_82 : decode cX5_writes 82 = .ok (.iload 4, 2) := by decide +kernel
theorem dX5_writes_84 : decode cX5_writes 84 = .ok (.iastore, 1) := by decide +kernel
theorem dX5_writes_85 : decode cX5_writes 85 = .ok (.aload_n 0, 1) := by decide +kernel
theorem dX5_writes_86 : decode cX5_writes 86 = .ok (.getfield 60, 3) := by decide +kernel
theorem dX5_writes_89 : decode cX5_writes 89 = .ok (.iload 5, 2) := by decide +kernel
theorem dX5_writes_91 : decode cX5_writes 91 = .ok (.dup2, 1) := by decide +kernel
theorem dX5_writes_92 : decode cX5_writes 92 = .ok (.iaload, 1) := by decide +kernel
theorem dX5_writes_93 : decode cX5_writes 93 = .ok (.iconst 1, 1) := by decide +kernel
theorem dX5_writes_94 : decode cX5_writes 94 = .ok (.iload_n 3, 1) := by decide +kernel
theorem dX5_writes_95 : decode cX5_writes 95 = .ok (.ishl, 1) := by decide +kernel
theorem dX5_writes_96 : decode cX5_writes 96 = .ok (.iconst (-1), 1) := by decide +kernel
theorem dX5_writes_97 : decode cX5_writes 97 = .ok (.ixor, 1) := by decide +kernel
theorem dX5_writes_98 : decode cX5_writes 98 = .ok (.iand, 1) := by decide +kernel
theorem dX5_writes_99 : decode cX5_writes 99 = .ok (.iastore, 1) := by decide +kernel
theorem dX5_writes_100 : decode cX5_writes 100 = .ok (.return_, 1) := by decide +kernel
theorem dX5_readies_0 : decode cX5_readies 0 = .ok (.aload_n 0, 1) := by decide +kernel
theorem dX5_readies_1 : decode cX5_readies 1 = .ok (.getfield 72, 3) := by decide +kernel
theorem dX5_readies_4 : decode cX5_readies 4 = .ok (.bipush 6, 2) := by decide +kernel
theorem dX5_readies_6 : decode cX5_readies 6 = .ok (.iload_n 1, 1) := by decide +kernel
theorem dX5_readies_7 : decode cX5_readies 7 = .ok (.imul, 1) := by decide +kernel
theorem dX5_readies_8 : decode cX5_readies 8 = .ok (.iload_n 2, 1) := by decide +kernel
theorem dX5_readies_9 : decode cX5_readies 9 = .ok (.iadd, 1) := by decide +kernel
theorem dX5_readies_10 : decode cX5_readies 10 = .ok (.iaload, 1) := by decide +kernel
theorem dX5_readies_11 : decode cX5_readies 11 = .ok (.istore_n 3, 1) := by decide +kernel
theorem dX5_readies_12 : decode cX5_readies 12 = .ok (.aload_n 0, 1) := by decide +kernel
theorem dX5_readies_13 : decode cX5_readies 13 = .ok (.iload_n 1, 1) := by decide +kernel
theorem dX5_readies_14 : decode cX5_readies 14 = .ok (.iload_n 3, 1) := by decide +kernel
theorem dX5_readies_15 : decode cX5_readies 15 = .ok (.invokevirtual 143, 3) := by decide +kernel
theorem dX5_readies_18 : decode cX5_readies 18 = .ok (.ifCond .eq 10, 3) := by decide +kernel
theorem dX5_readies_21 : decode cX5_readies 21 = .ok (.aload_n 0, 1) := by decide +kernel
theorem dX5_readies_22 : decode cX5_readies 22 = .ok (.iload_n 1, 1) := by decide +kernel
theorem dX5_readies_23 : decode cX5_readies 23 = .ok (.iload_n 2, 1) := by decide +kernel
theorem dX5_readies_24 : decode cX5_readies 24 = .ok (.invokevirtual 173, 3) := by decide +kernel
theorem dX5_readies_27 : decode cX5_readies 27 = .ok (.istore_n 3, 1) := by decide +kernel
theorem dX5_readies_28 : decode cX5_readies 28 = .ok (.aload_n 0, 1) := by decide +kernel
theorem dX5_readies_29 : decode cX5_readies 29 = .ok (.iload_n 3, 1) := by decide +kernel
theorem dX5_readies_30 : decode cX5_readies 30 = .ok (.invokevirtual 150, 3) := by decide +kernel
theorem dX5_readies_33 : decode cX5_readies 33 = .ok (.ifCond .eq 17, 3) := by decide +kernel
theorem dX5_readies_36 : decode cX5_readies 36 = .ok (.aload_n 0, 1) := by decide +kernel
theorem dX5_readies_37 : decode cX5_readies 37 = .ok (.getfield 20, 3) := by decide +kernel
theorem dX5_readies_40 : decode cX5_readies 40 = .ok (.aload_n 0, 1) := by decide +kernel
theorem dX5_readies_41 : decode cX5_readies 41 = .ok (.getfield 36, 3) := by decide +kernel
theorem dX5_readies_44 : decode cX5_readies 44 = .ok (.iload_n 3, 1) := by decide +kernel
theorem dX5_readies_45 : decode cX5_readies 45 = .ok (.iaload, 1) := by decide +kernel
theorem dX5_readies_46 : decode cX5_readies 46 = .ok (.baload, 1) := by decide +kernel
theorem dX5_readies_47 : decode cX5_readies 47 = .ok (.ifCond .ne 8, 3) := by decide +kernel
theorem dX5_readies_50 : decode cX5_readies 50 = .ok (.aload_n 0, 1) := by decide +kernel
theorem dX5_readies_51 : decode cX5_readies 51 = .ok (.iload_n 3, 1) := by decide +kernel
theorem dX5_readies_52 : decode cX5_readies 52 = .ok (.invokevirtual 176, 3) := by decide +kernel
theorem dX5_readies_55 : decode cX5_readies 55 = .ok (.iload_n 3, 1) := by decide +kernel
theorem dX5_readies_56 : decode cX5_readies 56 = .ok (.ireturn, 1) := by decide +kernel
theorem dX5_writesAll_0 : decode cX5_writesAll 0 = .ok (.iconst 1, 1) := by decide +kernel
theorem dX5_writesAll_1 : decode cX5_writesAll 1 = .ok (.istore 4, 2) := by decide +kernel
theorem dX5_writesAll_3 : decode cX5_writesAll 3 = .ok (.iconst 0, 1) := by decide +kernel
theorem dX5_writesAll_4 : decode cX5_writesAll 4 = .ok (.istore 5, 2) := by decide +kernel
theorem dX5_writesAll_6 : decode cX5_writesAll 6 = .ok (.iload 5, 2) := by decide +kernel
theorem dX5_writesAll_8 : decode cX5_writesAll 8 = .ok (.aload_n 0, 1) := by decide +kernel
theorem dX5_writesAll_9 : decode cX5_writesAll 9 = .ok (.getfield 45, 3) := by decide +kernel
theorem dX5_writesAll_12 : decode cX5_writesAll 12 = .ok (.iload_n 1, 1) := by decide +kernel
theorem dX5_writesAll_13 : decode cX5_writesAll 13 = .ok (.iaload, 1) := by decide +kernel
theorem dX5_writesAll_14 : decode cX5_writesAll 14 = .ok (.if_icmp .ge 64, 3) := by decide +kernel
theorem dX5_writesAll_17 : decode cX5_writesAll 17 = .ok (.aload_n 0, 1) := by decide +kernel
theorem dX5_writesAll_18 : decode cX5_writesAll 18 = .ok (.getfield 48, 3) := by decide +kernel
theorem dX5_writesAll_21 : decode cX5_writesAll 21 = .ok (.bipush 8, 2) := by decide +kernel
theorem dX5_writesAll_23 : decode cX5_writesAll 23 = .ok (.iload_n 1, 1) := by decide +kernel
theorem dX5_writesAll_24 : decode cX5_writesAll 24 = .ok (.imul, 1) := by decide +kernel
theorem dX5_writesAll_25 : decode cX5_writesAll 25 = .ok (.iload 5, 2) := by decide +kernel
theorem dX5_writesAll_27 : decode cX5_writesAll 27 = .ok (.iadd, 1) := by decide +kernel
theorem dX5_writesAll_28 : decode cX5_writesAll 28 = .ok (.iaload, 1) := by decide +kernel
theorem dX5_writesAll_29 : decode cX5_writesAll 29 = .ok (.istore 6, 2) := by decide +kernel
theorem dX5_writesAll_31 : decode cX5_writesAll 31 = .ok (.iload 4, 2) := by decide +kernel
theorem dX5_writesAll_33 : decode cX5_writesAll 33 = .ok (.ifCond .eq 17, 3) := by decide +kernel
theorem dX5_writesAll_36 : decode cX5_writesAll 36 = .ok (.aload_n 0, 1) := by decide +kernel
theorem dX5_writesAll_37 : decode cX5_writesAll 37 = .ok (.getfield 20, 3) := by decide +kernel
theorem dX5_writesAll_40 : decode cX5_writesAll 40 = .ok (.iload 6, 2) := by decide +kernel
theorem dX5_writesAll_42 : decode cX5_writesAll 42 = .ok (.baload, 1) := by decide +kernel
theorem dX5_writesAll_43 : decode cX5_writesAll 43 = .ok (.ifCond .eq 7, 3) := by decide +kernel
theorem dX5_writesAll_46 : decode cX5_writesAll 46 = .ok (.iconst 1, 1) := by decide +kernel
theorem dX5_writesAll_47 : decode cX5_writesAll 47 = .ok (.goto 4, 3) := by decide +kernel
theorem dX5_writesAll_50 : decode cX5_writesAll 50 = .ok (.iconst 0, 1) := by decide +kernel
theorem dX5_writesAll_51 : decode cX5_writesAll 51 = .ok (.istore 4, 2) := by decide +kernel
theorem dX5_writesAll_53 : decode cX5_writesAll 53 = .ok (.aload_n 0, 1) := by decide +kernel
theorem dX5_writesAll_54 : decode cX5_writesAll 54 = .ok (.getfield 20, 3) := by decide +kernel
theorem dX5_writesAll_57 : decode cX5_writesAll 57 = .ok (.iload 6, 2) := by decide +kernel
theorem dX5_writesAll_59 : decode cX5_writesAll 59 = .ok (.baload, 1) := by decide +kernel
theorem dX5_writesAll_60 : decode cX5_writesAll 60 = .ok (.ifCond .eq 12, 3) := by decide +kernel
theorem dX5_writesAll_63 : decode cX5_writesAll 63 = .ok (.aload_n 0, 1) := by decide +kernel
theorem dX5_writesAll_64 : decode cX5_writesAll 64 = .ok (.iload 6, 2) := by decide +kernel
theorem dX5_writesAll_66 : decode cX5_writesAll 66 = .ok (.iload_n 1, 1) := by decide +kernel
theorem dX5_writesAll_67 : decode cX5_writesAll 67 = .ok (.iload_n 2, 1) := by decide +kernel
theorem dX5_writesAll_68 : decode cX5_writesAll 68 = .ok (.iload_n 3, 1) := by decide +kernel
theorem dX5_writesAll_69 : decode cX5_writesAll 69 = .ok (.invokevirtual 179, 3) := by decide +kernel
theorem dX5_writesAll_72 : decode cX5_writesAll 72 = .ok (.iinc 5 1, 3) := by decide +kernel
theorem dX5_writesAll_75 : decode cX5_writesAll 75 = .ok (.goto (-69), 3) := by decide +kernel
theorem dX5_writesAll_78 : decode cX5_writesAll 78 = .ok (.iload 4, 2) := by decide +kernel
theorem dX5_writesAll_80 : decode cX5_writesAll 80 = .ok (.ifCond .ne 8, 3) := by decide +kernel
theorem dX5_writesAll_83 : decode cX5_writesAll 83 = .ok (.aload_n 0, 1) := by decide +kernel
theorem dX5_writesAll_84 : decode cX5_writesAll 84 = .ok (.iload_n 1, 1) := by decide +kernel
theorem dX5_writesAll_85 : decode cX5_writesAll 85 = .ok (.invokevirtual 119, 3) := by decide +kernel
theorem dX5_writesAll_88 : decode cX5_writesAll 88 = .ok (.iload 4, 2) := by decide +kernel
theorem dX5_writesAll_90 : decode cX5_writesAll 90 = .ok (.ireturn, 1) := by decide +kernel
theorem dX5_hasPlace_0 : decode cX5_hasPlace 0 = .ok (.iconst 0, 1) := by decide +kernel
theorem dX5_hasPlace_1 : decode cX5_hasPlace 1 = .ok (.istore_n 1, 1) := by decide +kernel
theorem dX5_hasPlace_2 : decode cX5_hasPlace 2 = .ok (.iconst 0, 1) := by decide +kernel
theorem dX5_hasPlace_3 : decode cX5_hasPlace 3 = .ok (.istore_n 2, 1) := by decide +kernel
theorem dX5_hasPlace_4 : decode cX5_hasPlace 4 = .ok (.iload_n 2, 1) := by decide +kernel
theorem dX5_hasPlace_5 : decode cX5_hasPlace 5 = .ok (.aload_n 0, 1) := by decide +kernel
theorem dX5_hasPlace_6 : decode cX5_hasPlace 6 = .ok (.getfield 78, 3) := by decide +kernel
theorem dX5_hasPlace_9 : decode cX5_hasPlace 9 = .ok (.if_icmp .ge 27, 3) := by decide +kernel
theorem dX5_hasPlace_12 : decode cX5_hasPlace 12 = .ok (.iload_n 1, 1) := by decide +kernel
theorem dX5_hasPlace_13 : decode cX5_hasPlace 13 = .ok (.ifCond .ne 11, 3) := by decide +kernel
theorem dX5_hasPlace_16 : decode cX5_hasPlace 16 = .ok (.aload_n 0, 1) := by decide +kernel
theorem dX5_hasPlace_17 : decode cX5_hasPlace 17 = .ok (.iload_n 2, 1) := by decide +kernel
theorem dX5_hasPlace_18 : decode cX5_hasPlace 18 = .ok (.invokevirtual 131, 3) := by decide +kernel
theorem dX5_hasPlace_21 : decode cX5_hasPlace 21 = .ok (.ifCond .eq 7, 3) := by decide +kernel
theorem dX5_hasPlace_24 : decode cX5_hasPlace 24 = .ok (.iconst 1, 1) := by decide +kernel
theorem dX5_hasPlace_25 : decode cX5_hasPlace 25 = .ok (.goto 4, 3) := by decide +kernel
theorem dX5_hasPlace_28 : decode cX5_hasPlace 28 = .ok (.iconst 0, 1) := by decide +kernel
theorem dX5_hasPlace_29 : decode cX5_hasPlace 29 = .ok (.istore_n 1, 1) := by decide +kernel
theorem dX5_hasPlace_30 : decode cX5_hasPlace 30 = .ok (.iinc 2 1, 3) := by decide +kernel
theorem dX5_hasPlace_33 : decode cX5_hasPlace 33 = .ok (.goto (-29), 3) := by decide +kernel
theorem dX5_hasPlace_36 : decode cX5_hasPlace 36 = .ok (.iload_n 1, 1) := by decide +kernel
theorem dX5_hasPlace_37 : decode cX5_hasPlace 37 = .ok (.ifCond .eq 16, 3) := by decide +kernel
theorem dX5_hasPlace_40 : decode cX5_hasPlace 40 = .ok (.aload_n 0, 1) := by decide +kernel
theorem dX5_hasPlace_41 : decode cX5_hasPlace 41 = .ok (.getfield 85, 3) := by decide +kernel
theorem dX5_hasPlace_44 : decode cX5_hasPlace 44 = .ok (.bipush 60, 2) := by decide +kernel
theorem dX5_hasPlace_46 : decode cX5_hasPlace 46 = .ok (.if_icmp .ge 7, 3) := by decide +kernel
theorem dX5_hasPlace_49 : decode cX5_hasPlace 49 = .ok (.iconst 1, 1) := by decide +kernel
theorem dX5_hasPlace_50 : decode cX5_hasPlace 50 = .ok (.goto 4, 3) := by decide +kernel
theorem dX5_hasPlace_53 : decode cX5_hasPlace 53 = .ok (.iconst 0, 1) := by decide +kernel
theorem dX5_hasPlace_54 : decode cX5_hasPlace 54 = .ok (.ireturn, 1) := by decide +kernel
theorem dX5_adds_0 : decode cX5_adds 0 = .ok (.aload_n 0, 1) := by decide +kernel
theorem dX5_adds_1 : decode cX5_adds 1 = .ok (.invokevirtual 162, 3) := by decide +kernel
theorem dX5_adds_4 : decode cX5_adds 4 = .ok (.istore_n 2, 1) := by decide +kernel
theorem dX5_adds_5 : decode cX5_adds 5 = .ok (.iconst 0, 1) := by decide +kernel
theorem dX5_adds_6 : decode cX5_adds 6 = .ok (.istore_n 3, 1) := by decide +kernel
theorem dX5_adds_7 : decode cX5_adds 7 = .ok (.iload_n 3, 1) := by decide +kernel
theorem dX5_adds_8 : decode cX5_adds 8 = .ok (.iconst 3, 1) := by decide +kernel
theorem dX5_adds_9 : decode cX5_adds 9 = .ok (.if_icmp .ge 65, 3) := by decide +kernel
theorem dX5_adds_12 : decode cX5_adds 12 = .ok (.aload_n 0, 1) := by decide +kernel
theorem dX5_adds_13 : decode cX5_adds 13 = .ok (.iload_n 2, 1) := by decide +kernel
theorem dX5_adds_14 : decode cX5_adds 14 = .ok (.invokevirtual 182, 3) := by decide +kernel
theorem dX5_adds_17 : decode cX5_adds 17 = .ok (.istore 4, 2) := by decide +kernel
theorem dX5_adds_19 : decode cX5_adds 19 = .ok (.iload 4, 2) := by decide +kernel
theorem dX5_adds_21 : decode cX5_adds 21 = .ok (.iconst (-1), 1) := by decide +kernel
theorem dX5_adds_22 : decode cX5_adds 22 = .ok (.if_icmp .eq 46, 3) := by decide +kernel
theorem dX5_adds_25 : decode cX5_adds 25 = .ok (.aload_n 0, 1) := by decide +kernel
theorem dX5_adds_26 : decode cX5_adds 26 = .ok (.getfield 51, 3) := by decide +kernel
theorem dX5_adds_29 : decode cX5_adds 29 = .ok (.iload 4, 2) := by decide +kernel
theorem dX5_adds_31 : decode cX5_adds 31 = .ok (.iload_n 2, 1) := by decide +kernel
theorem dX5_adds_32 : decode cX5_adds 32 = .ok (.invokestatic 104, 3) := by decide +kernel
theorem dX5_adds_35 : decode cX5_adds 35 = .ok (.iconst 1, 1) := by decide +kernel
theorem dX5_adds_36 : decode cX5_adds 36 = .ok (.iastore, 1) := by decide +kernel
theorem dX5_adds_37 : decode cX5_adds 37 = .ok (.aload_n 0, 1) := by decide +kernel
theorem dX5_adds_38 : decode cX5_adds 38 = .ok (.getfield 54, 3) := by decide +kernel
theorem dX5_adds_41 : decode cX5_adds 41 = .ok (.iload 4, 2) := by decide +kernel
theorem dX5_adds_43 : decode cX5_adds 43 = .ok (.iload_n 2, 1) := by decide +kernel
theorem dX5_adds_44 : decode cX5_adds 44 = .ok (.invokestatic 104, 3) := by decide +kernel
theorem dX5_adds_47 : decode cX5_adds 47 = .ok (.iconst 0, 1) := by decide +kernel
theorem dX5_adds_48 : decode cX5_adds 48 = .ok (.iastore, 1) := by decide +kernel
theorem dX5_adds_49 : decode cX5_adds 49 = .ok (.aload_n 0, 1) := by decide +kernel
theorem dX5_adds_50 : decode cX5_adds 50 = .ok (.getfield 60, 3) := by decide +kernel
theorem dX5_adds_53 : decode cX5_adds 53 = .ok (.iload 4, 2) := by decide +kernel
theorem dX5_adds_55 : decode cX5_adds 55 = .ok (.iload_n 2, 1) := by decide +kernel
theorem dX5_adds_56 : decode cX5_adds 56 = .ok (.invokestatic 104, 3) := by decide +kernel
theorem dX5_adds_59 : decode cX5_adds 59 = .ok (.iconst 0, 1) := by decide +kernel
theorem dX5_adds_60 : decode cX5_adds 60 = .ok (.iastore, 1) := by decide +kernel
theorem dX5_adds_61 : decode cX5_adds 61 = .ok (.aload_n 0, 1) := by decide +kernel
theorem dX5_adds_62 : decode cX5_adds 62 = .ok (.iload_n 2, 1) := by decide +kernel
theorem dX5_adds_63 : decode cX5_adds 63 = .ok (.iload 4, 2) := by decide +kernel
theorem dX5_adds_65 : decode cX5_adds 65 = .ok (.invokevirtual 170, 3) := by decide +kernel
theorem dX5_adds_68 : decode cX5_adds 68 = .ok (.iinc 3 1, 3) := by decide +kernel
theorem dX5_adds_71 : decode cX5_adds 71 = .ok (.goto (-64), 3) := by decide +kernel
theorem dX5_adds_74 : decode cX5_adds 74 = .ok (.aload_n 0, 1) := by decide +kernel
theorem dX5_adds_75 : decode cX5_adds 75 = .ok (.getfield 72, 3) := by decide +kernel
theorem dX5_adds_78 : decode cX5_adds 78 = .ok (.bipush 6, 2) := by decide +kernel
theorem dX5_adds_80 : decode cX5_adds 80 = .ok (.iload_n 1, 1) := by decide +kernel
theorem dX5_adds_81 : decode cX5_adds 81 = .ok (.imul, 1) := by decide +kernel
theorem dX5_adds_82 : decode cX5_adds 82 = .ok (.aload_n 0, 1) := by decide +kernel
theorem dX5_adds_83 : decode cX5_adds 83 = .ok (.getfield 69, 3) := by decide +kernel
theorem dX5_adds_86 : decode cX5_adds 86 = .ok (.iload_n 1, 1) := by decide +kernel
theorem dX5_adds_87 : decode cX5_adds 87 = .ok (.iaload, 1) := by decide +kernel
theorem dX5_adds_88 : decode cX5_adds 88 = .ok (.iadd, 1) := by decide +kernel
theorem dX5_adds_89 : decode cX5_adds 89 = .ok (.iload_n 2, 1) := by decide +kernel
theorem dX5_adds_90 : decode cX5_adds 90 = .ok (.iastore, 1) := by decide +kernel
theorem dX5_adds_91 : decode cX5_adds 91 = .ok (.aload_n 0, 1) := by decide +kernel
theorem dX5_adds_92 : decode cX5_adds 92 = .ok (.getfield 69, 3) := by decide +kernel
theorem dX5_adds_95 : decode cX5_adds 95 = .ok (.iload_n 1, 1) := by decide +kernel
theorem dX5_adds_96 : decode cX5_adds 96 = .ok (.dup2, 1) := by decide +kernel
theorem dX5_adds_97 : decode cX5_adds 97 = .ok (.iaload, 1) := by decide +kernel
theorem dX5_adds_98 : decode cX5_adds 98 = .ok (.iconst 1, 1) := by decide +kernel
theorem dX5_adds_99 : decode cX5_adds 99 = .ok (.iadd, 1) := by decide +kernel
theorem dX5_adds_100 : decode cX5_adds 100 = .ok (.iastore, 1) := by decide +kernel
theorem dX5_adds_101 : decode cX5_adds 101 = .ok (.return_, 1) := by decide +kernel
theorem dX5_isFull_0 : decode cX5_isFull 0 = .ok (.aload_n 0, 1) := by decide +kernel
theorem dX5_isFull_1 : decode cX5_isFull 1 = .ok (.getfield 69, 3) := by decide +kernel
theorem dX5_isFull_4 : decode cX5_isFull 4 = .ok (.iload_n 1, 1) := by decide +kernel
theorem dX5_isFull_5 : decode cX5_isFull 5 = .ok (.iaload, 1) := by decide +kernel
theorem dX5_isFull_6 : decode cX5_isFull 6 = .ok (.ifCond .ne 5, 3) := by decide +kernel
theorem dX5_isFull_9 : decode cX5_isFull 9 = .ok (.iconst 1, 1) := by decide +kernel
theorem dX5_isFull_10 : decode cX5_isFull 10 = .ok (.ireturn, 1) := by decide +kernel
theorem dX5_isFull_11 : decode cX5_isFull 11 = .ok (.aload_n 0, 1) := by decide +kernel
theorem dX5_isFull_12 : decode cX5_isFull 12 = .ok (.getfield 72, 3) := by decide +kernel
theorem dX5_isFull_15 : decode cX5_isFull 15 = .ok (.bipush 6, 2) := by decide +kernel
theorem dX5_isFull_17 : decode cX5_isFull 17 = .ok (.iload_n 1, 1) := by decide +kernel
theorem dX5_isFull_18 : decode cX5_isFull 18 = .ok (.imul, 1) := by decide +kernel
theorem dX5_isFull_19 : decode cX5_isFull 19 = .ok (.aload_n 0, 1) := by decide +kernel
theorem dX5_isFull_20 : decode cX5_isFull 20 = .ok (.getfield 69, 3) := by decide +kernel
theorem dX5_isFull_23 : decode cX5_isFull 23 = .ok (.iload_n 1, 1) := by decide +kernel
theorem dX5_isFull_24 : decode cX5_isFull 24 = .ok (.iaload, 1) := by decide +kernel
theorem dX5_isFull_25 : decode cX5_isFull 25 = .ok (.iadd, 1) := by decide +kernel
theorem dX5_isFull_26 : decode cX5_isFull 26 = .ok (.iconst 1, 1) := by decide +kernel
theorem dX5_isFull_27 : decode cX5_isFull 27 = .ok (.isub, 1) := by decide +kernel
theorem dX5_isFull_28 : decode cX5_isFull 28 = .ok (.iaload, 1) := by decide +kernel
theorem dX5_isFull_29 : decode cX5_isFull 29 = .ok (.istore_n 2, 1) := by decide +kernel
theorem dX5_isFull_30 : decode cX5_isFull 30 = .ok (.aload_n 0, 1) := by decide +kernel
theorem dX5_isFull_31 : decode cX5_isFull 31 = .ok (.iload_n 1, 1) := by decide +kernel
theorem dX5_isFull_32 : decode cX5_isFull 32 = .ok (.iload_n 2, 1) := by decide +kernel
theorem dX5_isFull_33 : decode cX5_isFull 33 = .ok (.invokevirtual 156, 3) := by decide +kernel
theorem dX5_isFull_36 : decode cX5_isFull 36 = .ok (.istore_n 3, 1) := by decide +kernel
theorem dX5_isFull_37 : decode cX5_isFull 37 = .ok (.iload_n 3, 1) := by decide +kernel
theorem dX5_isFull_38 : decode cX5_isFull 38 = .ok (.iconst (-1), 1) := by decide +kernel
theorem dX5_isFull_39 : decode cX5_isFull 39 = .ok (.if_icmp .eq 21, 3) := by decide +kernel
theorem dX5_isFull_42 : decode cX5_isFull 42 = .ok (.aload_n 0, 1) := by decide +kernel
theorem dX5_isFull_43 : decode cX5_isFull 43 = .ok (.getfield 54, 3) := by decide +kernel
theorem dX5_isFull_46 : decode cX5_isFull 46 = .ok (.iload_n 3, 1) := by decide +kernel
theorem dX5_isFull_47 : decode cX5_isFull 47 = .ok (.iload_n 2, 1) := by decide +kernel
theorem dX5_isFull_48 : decode cX5_isFull 48 = .ok (.invokestatic 104, 3) := by decide +kernel
theorem dX5_isFull_51 : decode cX5_isFull 51 = .ok (.iaload, 1) := by decide +kernel
theorem dX5_isFull_52 : decode cX5_isFull 52 = .ok (.iconst 4, 1) := by decide +kernel
theorem dX5_isFull_53 : decode cX5_isFull 53 = .ok (.if_icmp .ne 7, 3) := by decide +kernel
theorem dX5_isFull_56 : decode cX5_isFull 56 = .ok (.iconst 1, 1) := by decide +kernel
theorem dX5_isFull_57 : decode cX5_isFull 57 = .ok (.goto 4, 3) := by decide +kernel
theorem dX5_isFull_60 : decode cX5_isFull 60 = .ok (.iconst 0, 1) := by decide +kernel
theorem dX5_isFull_61 : decode cX5_isFull 61 = .ok (.ireturn, 1) := by decide +kernel
theorem dX5_canAppend_0 : decode cX5_canAppend 0 = .ok (.aload_n 0, 1) := by decide +kernel
theorem dX5_canAppend_1 : decode cX5_canAppend 1 = .ok (.getfield 63, 3) := by decide +kernel
theorem dX5_canAppend_4 : decode cX5_canAppend 4 = .ok (.iload_n 1, 1) := by decide +kernel
theorem dX5_canAppend_5 : decode cX5_canAppend 5 = .ok (.iaload, 1) := by decide +kernel
theorem dX5_canAppend_6 : decode cX5_canAppend 6 = .ok (.ifCond .eq 5, 3) := by decide +kernel
theorem dX5_canAppend_9 : decode cX5_canAppend 9 = .ok (.iconst 0, 1) := by decide +kernel
theorem dX5_canAppend_10 : decode cX5_canAppend 10 = .ok (.ireturn, 1) := by decide +kernel
theorem dX5_canAppend_11 : decode cX5_canAppend 11 = .ok (.aload_n 0, 1) := by decide +kernel
theorem dX5_canAppend_12 : decode cX5_canAppend 12 = .ok (.iload_n 1, 1) := by decide +kernel
theorem dX5_canAppend_13 : decode cX5_canAppend 13 = .ok (.invokevirtual 185, 3) := by decide +kernel
theorem dX5_canAppend_16 : decode cX5_canAppend 16 = .ok (.ifCond .eq 29, 3) := by decide +kernel
theorem dX5_canAppend_19 : decode cX5_canAppend 19 = .ok (.aload_n 0, 1) := by decide +kernel
theorem dX5_canAppend_20 : decode cX5_canAppend 20 = .ok (.getfield 69, 3) := by decide +kernel
theorem dX5_canAppend_23 : decode cX5_canAppend 23 = .ok (.iload_n 1, 1) := by decide +kernel
theorem dX5_canAppend_24 : decode cX5_canAppend 24 = .ok (.iaload, 1) := by decide +kernel
theorem dX5_canAppend_25 : decode cX5_canAppend 25 = .ok (.bipush 6, 2) := by decide +kernel
theorem dX5_canAppend_27 : decode cX5_canAppend 27 = .ok (.if_icmp .ge 14, 3) := by decide +kernel
theorem dX5_canAppend_30 : decode cX5_canAppend 30 = .ok (.aload_n 0, 1) := by decide +kernel
theorem dX5_canAppend_31 : decode cX5_canAppend 31 = .ok (.invokevirtual 188, 3) := by decide +kernel
theorem dX5_canAppend_34 : decode cX5_canAppend 34 = .ok (.ifCond .eq 7, 3) := by decide +kernel
theorem dX5_canAppend_37 : decode cX5_canAppend 37 = .ok (.iconst 1, 1) := by decide +kernel
theorem dX5_canAppend_38 : decode cX5_canAppend 38 = .ok (.goto 30, 3) := by decide +kernel
theorem dX5_canAppend_41 : decode cX5_canAppend 41 = .ok (.iconst 0, 1) := by decide +kernel
theorem dX5_canAppend_42 : decode cX5_canAppend 42 = .ok (.goto 26, 3) := by decide +kernel
theorem dX5_canAppend_45 : decode cX5_canAppend 45 = .ok (.aload_n 0, 1) := by decide +kernel
theorem dX5_canAppend_46 : decode cX5_canAppend 46 = .ok (.iload_n 1, 1) := by decide +kernel
theorem dX5_canAppend_47 : decode cX5_canAppend 47 = .ok (.aload_n 0, 1) := by decide +kernel
theorem dX5_canAppend_48 : decode cX5_canAppend 48 = .ok (.getfield 72, 3) := by decide +kernel
theorem dX5_canAppend_51 : decode cX5_canAppend 51 = .ok (.bipush 6, 2) := by decide +kernel
theorem dX5_canAppend_53 : decode cX5_canAppend 53 = .ok (.iload_n 1, 1) := by decide +kernel
theorem dX5_canAppend_54 : decode cX5_canAppend 54 = .ok (.imul, 1) := by decide +kernel
theorem dX5_canAppend_55 : decode cX5_canAppend 55 = .ok (.aload_n 0, 1) := by decide +kernel
theorem dX5_canAppend_56 : decode cX5_canAppend 56 = .ok (.getfield 69, 3) := by decide +kernel
theorem dX5_canAppend_59 : decode cX5_canAppend 59 = .ok (.iload_n 1, 1) := by decide +kernel
theorem dX5_canAppend_60 : decode cX5_canAppend 60 = .ok (.iaload, 1) := by decide +kernel
theorem dX5_canAppend_61 : decode cX5_canAppend 61 = .ok (.iadd, 1) := by decide +kernel
theorem dX5_canAppend_62 : decode cX5_canAppend 62 = .ok (.iconst 1, 1) := by decide +kernel
theorem dX5_canAppend_63 : decode cX5_canAppend 63 = .ok (.isub, 1) := by decide +kernel
theorem dX5_canAppend_64 : decode cX5_canAppend 64 = .ok (.iaload, 1) := by decide +kernel
theorem dX5_canAppend_65 : decode cX5_canAppend 65 = .ok (.invokevirtual 192, 3) := by decide +kernel
theorem dX5_canAppend_68 : decode cX5_canAppend 68 = .ok (.ireturn, 1) := by decide +kernel
theorem dX5_append_0 : decode cX5_append 0 = .ok (.aload_n 0, 1) := by decide +kernel
theorem dX5_append_1 : decode cX5_append 1 = .ok (.iload_n 1, 1) := by decide +kernel
theorem dX5_append_2 : decode cX5_append 2 = .ok (.invokevirtual 140, 3) := by decide +kernel
theorem dX5_append_5 : decode cX5_append 5 = .ok (.istore_n 3, 1) := by decide +kernel
theorem dX5_append_6 : decode cX5_append 6 = .ok (.aload_n 0, 1) := by decide +kernel
theorem dX5_append_7 : decode cX5_append 7 = .ok (.iload_n 3, 1) := by decide +kernel
theorem dX5_append_8 : decode cX5_append 8 = .ok (.ifCond .ne 7, 3) := by decide +kernel
theorem dX5_append_11 : decode cX5_append 11 = .ok (.iconst 1, 1) := by decide +kernel
theorem dX5_append_12 : decode cX5_append 12 = .ok (.goto 31, 3) := by decide +kernel
theorem dX5_append_15 : decode cX5_append 15 = .ok (.iload_n 2, 1) := by decide +kernel
theorem dX5_append_16 : decode cX5_append 16 = .ok (.iconst 0, 1) := by decide +kernel
theorem dX5_append_17 : decode cX5_append 17 = .ok (.sipush 999, 3) := by decide +kernel
theorem dX5_append_20 : decode cX5_append 20 = .ok (.invokestatic 81, 3) := by decide +kernel
theorem dX5_append_23 : decode cX5_append 23 = .ok (.ifCond .ne 7, 3) := by decide +kernel
theorem dX5_append_26 : decode cX5_append 26 = .ok (.iconst 2, 1) := by decide +kernel
theorem dX5_append_27 : decode cX5_append 27 = .ok (.goto 16, 3) := by decide +kernel
theorem dX5_append_30 : decode cX5_append 30 = .ok (.aload_n 0, 1) := by decide +kernel
theorem dX5_append_31 : decode cX5_append 31 = .ok (.iload_n 1, 1) := by decide +kernel
theorem dX5_append_32 : decode cX5_append 32 = .ok (.invokevirtual 195, 3) := by decide +kernel
theorem dX5_append_35 : decode cX5_append 35 = .ok (.ifCond .eq 7, 3) := by decide +kernel
theorem dX5_append_38 : decode cX5_append 38 = .ok (.iconst 0, 1) := by decide +kernel
theorem dX5_append_39 : decode cX5_append 39 = .ok (.goto 4, 3) := by decide +kernel
theorem dX5_append_42 : decode cX5_append 42 = .ok (.iconst 3, 1) := by decide +kernel
theorem dX5_append_43 : decode cX5_append 43 = .ok (.invokevirtual 91, 3) := by decide +kernel
theorem dX5_append_46 : decode cX5_append 46 = .ok (.ifCond .ne 5, 3) := by decide +kernel
theorem dX5_append_49 : decode cX5_append 49 = .ok (.iconst 0, 1) := by decide +kernel
theorem dX5_append_50 : decode cX5_append 50 = .ok (.ireturn, 1) := by decide +kernel
theorem dX5_append_51 : decode cX5_append 51 = .ok (.aload_n 0, 1) := by decide +kernel
theorem dX5_append_52 : decode cX5_append 52 = .ok (.iload_n 1, 1) := by decide +kernel
theorem dX5_append_53 : decode cX5_append 53 = .ok (.invokevirtual 185, 3) := by decide +kernel
theorem dX5_append_56 : decode cX5_append 56 = .ok (.ifCond .eq 8, 3) := by decide +kernel
theorem dX5_append_59 : decode cX5_append 59 = .ok (.aload_n 0, 1) := by decide +kernel
theorem dX5_append_60 : decode cX5_append 60 = .ok (.iload_n 1, 1) := by decide +kernel
theorem dX5_append_61 : decode cX5_append 61 = .ok (.invokevirtual 198, 3) := by decide +kernel
theorem dX5_append_64 : decode cX5_append 64 = .ok (.aload_n 0, 1) := by decide +kernel
theorem dX5_append_65 : decode cX5_append 65 = .ok (.getfield 69, 3) := by decide +kernel
theorem dX5_append_68 : decode cX5_append 68 = .ok (.iload_n 1, 1) := by decide +kernel
theorem dX5_append_69 : decode cX5_append 69 = .ok (.iaload, 1) := by decide +kernel
theorem dX5_append_70 : decode cX5_append 70 = .ok (.iconst 1, 1) := by decide +kernel
theorem dX5_append_71 : decode cX5_append 71 = .ok (.isub, 1) := by decide +kernel
theorem dX5_append_72 : decode cX5_append 72 = .ok (.istore 4, 2) := by decide +kernel
theorem dX5_append_74 : decode cX5_append 74 = .ok (.aload_n 0, 1) := by decide +kernel
theorem dX5_append_75 : decode cX5_append 75 = .ok (.iload_n 1, 1) := by decide +kernel
theorem dX5_append_76 : decode cX5_append 76 = .ok (.iload 4, 2) := by decide +kernel
theorem dX5_append_78 : decode cX5_append 78 = .ok (.invokevirtual 201, 3) := by decide +kernel
theorem dX5_append_81 : decode cX5_append 81 = .ok (.istore 5, 2) := by decide +kernel
theorem dX5_append_83 : decode cX5_append 83 = .ok (.aload_n 0, 1) := by decide +kernel
theorem dX5_append_84 : decode cX5_append 84 = .ok (.getfield 54, 3) := by decide +kernel
theorem dX5_append_87 : decode cX5_append 87 = .ok (.aload_n 0, 1) := by decide +kernel
theorem dX5_append_88 : decode cX5_append 88 = .ok (.getfield 36, 3) := by decide +kernel
theorem dX5_append_91 : decode cX5_append 91 = .ok (.iload 5, 2) := by decide +kernel
theorem dX5_append_93 : decode cX5_append 93 = .ok (.iaload, 1) := by decide +kernel
theorem dX5_append_94 : decode cX5_append 94 = .ok (.iload 5, 2) := by decide +kernel
theorem dX5_append_96 : decode cX5_append 96 = .ok (.invokestatic 104, 3) := by decide +kernel
theorem dX5_append_99 : decode cX5_append 99 = .ok (.iaload, 1) := by decide +kernel
theorem dX5_append_100 : decode cX5_append 100 = .ok (.istore 6, 2) := by decide +kernel
theorem dX5_append_102 : decode cX5_append 102 = .ok (.aload_n 0, 1) := by decide +kernel
theorem dX5_append_103 : decode cX5_append 103 = .ok (.iload 5, 2) := by decide +kernel
theorem dX5_append_105 : decode cX5_append 105 = .ok (.iload 6, 2) := by decide +kernel
theorem dX5_append_107 : decode cX5_append 107 = .ok (.iload_n 2, 1) := by decide +kernel
theorem dX5_append_108 : decode cX5_append 108 = .ok (.invokevirtual 204, 3) := by decide +kernel
theorem dX5_append_111 : decode cX5_append 111 = .ok (.ifCond .eq 14, 3) := by decide +kernel
theorem dX5_append_114 : decode cX5_append 114 = .ok (.bipush 10, 2) := by decide +kernel
theorem dX5_append_116 : decode cX5_append 116 = .ok (.iload 4, 2) := by decide +kernel
theorem dX5_append_118 : decode cX5_append 118 = .ok (.imul, 1) := by decide +kernel
theorem dX5_append_119 : decode cX5_append 119 = .ok (.iload 6, 2) := by decide +kernel
theorem dX5_append_121 : decode cX5_append 121 = .ok (.iadd, 1) := by decide +kernel
theorem dX5_append_122 : decode cX5_append 122 = .ok (.goto 4, 3) := by decide +kernel
theorem dX5_append_125 : decode cX5_append 125 = .ok (.iconst (-1), 1) := by decide +kernel
theorem dX5_append_126 : decode cX5_append 126 = .ok (.ireturn, 1) := by decide +kernel
theorem dX5_put_0 : decode cX5_put 0 = .ok (.aload_n 0, 1) := by decide +kernel
theorem dX5_put_1 : decode cX5_put 1 = .ok (.iload_n 1, 1) := by decide +kernel
theorem dX5_put_2 : decode cX5_put 2 = .ok (.invokevirtual 140, 3) := by decide +kernel
theorem dX5_put_5 : decode cX5_put 5 = .ok (.ifCond .eq 31, 3) := by decide +kernel
theorem dX5_put_8 : decode cX5_put 8 = .ok (.iload_n 2, 1) := by decide +kernel
theorem dX5_put_9 : decode cX5_put 9 = .ok (.iconst 0, 1) := by decide +kernel
theorem dX5_put_10 : decode cX5_put 10 = .ok (.aload_n 0, 1) := by decide +kernel
theorem dX5_put_11 : decode cX5_put 11 = .ok (.iload_n 1, 1) := by decide +kernel
theorem dX5_put_12 : decode cX5_put 12 = .ok (.invokevirtual 207, 3) := by decide +kernel
theorem dX5_put_15 : decode cX5_put 15 = .ok (.iconst 1, 1) := by decide +kernel
theorem dX5_put_16 : decode cX5_put 16 = .ok (.isub, 1) := by decide +kernel
theorem dX5_put_17 : decode cX5_put 17 = .ok (.invokestatic 81, 3) := by decide +kernel
theorem dX5_put_20 : decode cX5_put 20 = .ok (.ifCond .eq 16, 3) := by decide +kernel
theorem dX5_put_23 : decode cX5_put 23 = .ok (.iload_n 3, 1) := by decide +kernel
theorem dX5_put_24 : decode cX5_put 24 = .ok (.iconst 0, 1) := by decide +kernel
theorem dX5_put_25 : decode cX5_put 25 = .ok (.iconst 3, 1) := by decide +kernel
theorem dX5_put_26 : decode cX5_put 26 = .ok (.invokestatic 81, 3) := by decide +kernel
theorem dX5_put_29 : decode cX5_put 29 = .ok (.ifCond .eq 7, 3) := by decide +kernel
theorem dX5_put_32 : decode cX5_put 32 = .ok (.iconst 1, 1) := by decide +kernel
theorem dX5_put_33 : decode cX5_put 33 = .ok (.goto 4, 3) := by decide +kernel
theorem dX5_put_36 : decode cX5_put 36 = .ok (.iconst 0, 1) := by decide +kernel
theorem dX5_put_37 : decode cX5_put 37 = .ok (.istore 5, 2) := by decide +kernel
theorem dX5_put_39 : decode cX5_put 39 = .ok (.iload 5, 2) := by decide +kernel
theorem dX5_put_41 : decode cX5_put 41 = .ok (.ifCond .eq 17, 3) := by decide +kernel
theorem dX5_put_44 : decode cX5_put 44 = .ok (.aload_n 0, 1) := by decide +kernel
theorem dX5_put_45 : decode cX5_put 45 = .ok (.getfield 72, 3) := by decide +kernel
theorem dX5_put_48 : decode cX5_put 48 = .ok (.bipush 6, 2) := by decide +kernel
theorem dX5_put_50 : decode cX5_put 50 = .ok (.iload_n 1, 1) := by decide +kernel
theorem dX5_put_51 : decode cX5_put 51 = .ok (.imul, 1) := by decide +kernel
theorem dX5_put_52 : decode cX5_put 52 = .ok (.iload_n 2, 1) := by decide +kernel
theorem dX5_put_53 : decode cX5_put 53 = .ok (.iadd, 1) := by decide +kernel
theorem dX5_put_54 : decode cX5_put 54 = .ok (.iaload, 1) := by decide +kernel
theorem dX5_put_55 : decode cX5_put 55 = .ok (.goto 4, 3) := by decide +kernel
theorem dX5_put_58 : decode cX5_put 58 = .ok (.iconst 0, 1) := by decide +kernel
theorem dX5_put_59 : decode cX5_put 59 = .ok (.istore 6, 2) := by decide +kernel
theorem dX5_put_61 : decode cX5_put 61 = .ok (.iload 5, 2) := by decide +kernel
theorem dX5_put_63 : decode cX5_put 63 = .ok (.ifCond .eq 47, 3) := by decide +kernel
theorem dX5_put_66 : decode cX5_put 66 = .ok (.aload_n 0, 1) := by decide +kernel
theorem dX5_put_67 : decode cX5_put 67 = .ok (.getfield 63, 3) := by decide +kernel
theorem dX5_put_70 : decode cX5_put 70 = .ok (.iload_n 1, 1) := by decide +kernel
theorem dX5_put_71 : decode cX5_put 71 = .ok (.iaload, 1) := by decide +kernel
theorem dX5_put_72 : decode cX5_put 72 = .ok (.ifCond .ne 38, 3) := by decide +kernel
theorem dX5_put_75 : decode cX5_put 75 = .ok (.aload_n 0, 1) := by decide +kernel
theorem dX5_put_76 : decode cX5_put 76 = .ok (.iload_n 1, 1) := by decide +kernel
theorem dX5_put_77 : decode cX5_put 77 = .ok (.iload 6, 2) := by decide +kernel
theorem dX5_put_79 : decode cX5_put 79 = .ok (.invokevirtual 192, 3) := by decide +kernel
theorem dX5_put_82 : decode cX5_put 82 = .ok (.ifCond .eq 28, 3) := by decide +kernel
theorem dX5_put_85 : decode cX5_put 85 = .ok (.aload_n 0, 1) := by decide +kernel
theorem dX5_put_86 : decode cX5_put 86 = .ok (.getfield 54, 3) := by decide +kernel
theorem dX5_put_89 : decode cX5_put 89 = .ok (.aload_n 0, 1) := by decide +kernel
theorem dX5_put_90 : decode cX5_put 90 = .ok (.iload_n 1, 1) := by decide +kernel
theorem dX5_put_91 : decode cX5_put 91 = .ok (.iload 6, 2) := by decide +kernel
theorem dX5_put_93 : decode cX5_put 93 = .ok (.invokevirtual 156, 3) := by decide +kernel
theorem dX5_put_96 : decode cX5_put 96 = .ok (.iload 6, 2) := by decide +kernel
theorem dX5_put_98 : decode cX5_put 98 = .ok (.invokestatic 104, 3) := by decide +kernel
theorem dX5_put_101 : decode cX5_put 101 = .ok (.iaload, 1) := by decide +kernel
theorem dX5_put_102 : decode cX5_put 102 = .ok (.iload_n 3, 1) := by decide +kernel
theorem dX5_put_103 : decode cX5_put 103 = .ok (.if_icmp .le 7, 3) := by decide +kernel
theorem dX5_put_106 : decode cX5_put 106 = .ok (.iconst 1, 1) := by decide +kernel
theorem dX5_put_107 : decode cX5_put 107 = .ok (.goto 4, 3) := by decide +kernel
theorem dX5_put_110 : decode cX5_put 110 = .ok (.iconst 0, 1) := by decide +kernel
theorem dX5_put_111 : decode cX5_put 111 = .ok (.istore 7, 2) := by decide +kernel
theorem dX5_put_113 : decode cX5_put 113 = .ok (.aload_n 0, 1) := by decide +kernel
theorem dX5_put_114 : decode cX5_put 114 = .ok (.iload 5, 2) := by decide +kernel
theorem dX5_put_116 : decode cX5_put 116 = .ok (.ifCond .ne 7, 3) := by decide +kernel
theorem dX5_put_119 : decode cX5_put 119 = .ok (.iconst 1, 1) := by decide +kernel
theorem dX5_put_120 : decode cX5_put 120 = .ok (.goto 29, 3) := by decide +kernel
theorem dX5_put_123 : decode cX5_put 123 = .ok (.iload 4, 2) := by decide +kernel
theorem dX5_put_125 : decode cX5_put 125 = .ok (.iconst 0, 1) := by decide +kernel
theorem dX5_put_126 : decode cX5_put 126 = .ok (.sipush 999, 3) := by decide +kernel
theorem dX5_put_129 : decode cX5_put 129 = .ok (.invokestatic 81, 3) := by decide +kernel
theorem dX5_put_132 : decode cX5_put 132 = .ok (.ifCond .ne 7, 3) := by decide +kernel
theorem dX5_put_135 : decode cX5_put 135 = .ok (.iconst 2, 1) := by decide +kernel
theorem dX5_put_136 : decode cX5_put 136 = .ok (.goto 13, 3) := by decide +kernel
theorem dX5_put_139 : decode cX5_put 139 = .ok (.iload 7, 2) := by decide +kernel
theorem dX5_put_141 : decode cX5_put 141 = .ok (.ifCond .eq 7, 3) := by decide +kernel
theorem dX5_put_144 : decode cX5_put 144 = .ok (.iconst 0, 1) := by decide +kernel
theorem dX5_put_145 : decode cX5_put 145 = .ok (.goto 4, 3) := by decide +kernel
theorem dX5_put_148 : decode cX5_put 148 = .ok (.iconst 3, 1) := by decide +kernel
theorem dX5_put_149 : decode cX5_put 149 = .ok (.invokevirtual 91, 3) := by decide +kernel
theorem dX5_put_152 : decode cX5_put 152 = .ok (.ifCond .ne 5, 3) := by decide +kernel
theorem dX5_put_155 : decode cX5_put 155 = .ok (.iconst 0, 1) := by decide +kernel
theorem dX5_put_156 : decode cX5_put 156 = .ok (.ireturn, 1) := by decide +kernel
theorem dX5_put_157 : decode cX5_put 157 = .ok (.aload_n 0, 1) := by decide +kernel
theorem dX5_put_158 : decode cX5_put 158 = .ok (.aload_n 0, 1) := by decide +kernel
theorem dX5_put_159 : decode cX5_put 159 = .ok (.iload_n 1, 1) := by decide +kernel
theorem dX5_put_160 : decode cX5_put 160 = .ok (.iload_n 2, 1) := by decide +kernel
theorem dX5_put_161 : decode cX5_put 161 = .ok (.invokevirtual 201, 3) := by decide +kernel
theorem dX5_put_164 : decode cX5_put 164 = .ok (.iload_n 3, 1) := by decide +kernel
theorem dX5_put_165 : decode cX5_put 165 = .ok (.iload 4, 2) := by decide +kernel
theorem dX5_put_167 : decode cX5_put 167 = .ok (.invokevirtual 204, 3) := by decide +kernel
theorem dX5_put_170 : decode cX5_put 170 = .ok (.ireturn, 1) := by decide +kernel
theorem dX5_read_0 : decode cX5_read 0 = .ok (.aload_n 0, 1) := by decide +kernel
theorem dX5_read_1 : decode cX5_read 1 = .ok (.iload_n 1, 1) := by decide +kernel
theorem dX5_read_2 : decode cX5_read 2 = .ok (.invokevirtual 140, 3) := by decide +kernel
theorem dX5_read_5 : decode cX5_read 5 = .ok (.ifCond .eq 41, 3) := by decide +kernel
theorem dX5_read_8 : decode cX5_read 8 = .ok (.iload_n 2, 1) := by decide +kernel
theorem dX5_read_9 : decode cX5_read 9 = .ok (.iconst 0, 1) := by decide +kernel
theorem dX5_read_10 : decode cX5_read 10 = .ok (.aload_n 0, 1) := by decide +kernel
theorem dX5_read_11 : decode cX5_read 11 = .ok (.iload_n 1, 1) := by decide +kernel
theorem dX5_read_12 : decode cX5_read 12 = .ok (.invokevirtual 207, 3) := by decide +kernel
theorem dX5_read_15 : decode cX5_read 15 = .ok (.iconst 1, 1) := by decide +kernel
theorem dX5_read_16 : decode cX5_read 16 = .ok (.isub, 1) := by decide +kernel
theorem dX5_read_17 : decode cX5_read 17 = .ok (.invokestatic 81, 3) := by decide +kernel
theorem dX5_read_20 : decode cX5_read 20 = .ok (.ifCond .eq 26, 3) := by decide +kernel
theorem dX5_read_23 : decode cX5_read 23 = .ok (.iload_n 3, 1) := by decide +kernel
theorem dX5_read_24 : decode cX5_read 24 = .ok (.iconst 0, 1) := by decide +kernel
theorem dX5_read_25 : decode cX5_read 25 = .ok (.iconst 3, 1) := by decide +kernel
theorem dX5_read_26 : decode cX5_read 26 = .ok (.invokestatic 81, 3) := by decide +kernel
theorem dX5_read_29 : decode cX5_read 29 = .ok (.ifCond .eq 17, 3) := by decide +kernel
theorem dX5_read_32 : decode cX5_read 32 = .ok (.iload 4, 2) := by decide +kernel
theorem dX5_read_34 : decode cX5_read 34 = .ok (.iconst 0, 1) := by decide +kernel
theorem dX5_read_35 : decode cX5_read 35 = .ok (.iconst 3, 1) := by decide +kernel
theorem dX5_read_36 : decode cX5_read 36 = .ok (.invokestatic 81, 3) := by decide +kernel
theorem dX5_read_39 : decode cX5_read 39 = .ok (.ifCond .eq 7, 3) := by decide +kernel
theorem dX5_read_42 : decode cX5_read 42 = .ok (.iconst 1, 1) := by decide +kernel
theorem dX5_read_43 : decode cX5_read 43 = .ok (.goto 4, 3) := by decide +kernel
theorem dX5_read_46 : decode cX5_read 46 = .ok (.iconst 0, 1) := by decide +kernel
theorem dX5_read_47 : decode cX5_read 47 = .ok (.istore 5, 2) := by decide +kernel
theorem dX5_read_49 : decode cX5_read 49 = .ok (.aload_n 0, 1) := by decide +kernel
theorem dX5_read_50 : decode cX5_read 50 = .ok (.iload 5, 2) := by decide +kernel
theorem dX5_read_52 : decode cX5_read 52 = .ok (.ifCond .ne 7, 3) := by decide +kernel
theorem dX5_read_55 : decode cX5_read 55 = .ok (.iconst 1, 1) := by decide +kernel
theorem dX5_read_56 : decode cX5_read 56 = .ok (.goto 17, 3) := by decide +kernel
theorem dX5_read_59 : decode cX5_read 59 = .ok (.aload_n 0, 1) := by decide +kernel
theorem dX5_read_60 : decode cX5_read 60 = .ok (.getfield 63, 3) := by decide +kernel
theorem dX5_read_63 : decode cX5_read 63 = .ok (.iload_n 1, 1) := by decide +kernel
theorem dX5_read_64 : decode cX5_read 64 = .ok (.iaload, 1) := by decide +kernel
theorem dX5_read_65 : decode cX5_read 65 = .ok (.ifCond .ne 7, 3) := by decide +kernel
theorem dX5_read_68 : decode cX5_read 68 = .ok (.iconst 0, 1) := by decide +kernel
theorem dX5_read_69 : decode cX5_read 69 = .ok (.goto 4, 3) := by decide +kernel
theorem dX5_read_72 : decode cX5_read 72 = .ok (.iconst 2, 1) := by decide +kernel
theorem dX5_read_73 : decode cX5_read 73 = .ok (.invokevirtual 91, 3) := by decide +kernel
theorem dX5_read_76 : decode cX5_read 76 = .ok (.ifCond .ne 5, 3) := by decide +kernel
theorem dX5_read_79 : decode cX5_read 79 = .ok (.iconst 0, 1) := by decide +kernel
theorem dX5_read_80 : decode cX5_read 80 = .ok (.ireturn, 1) := by decide +kernel
theorem dX5_read_81 : decode cX5_read 81 = .ok (.aload_n 0, 1) := by decide +kernel
theorem dX5_read_82 : decode cX5_read 82 = .ok (.getfield 72, 3) := by decide +kernel
theorem dX5_read_85 : decode cX5_read 85 = .ok (.bipush 6, 2) := by decide +kernel
theorem dX5_read_87 : decode cX5_read 87 = .ok (.iload_n 1, 1) := by decide +kernel
theorem dX5_read_88 : decode cX5_read 88 = .ok (.imul, 1) := by decide +kernel
theorem dX5_read_89 : decode cX5_read 89 = .ok (.iload_n 2, 1) := by decide +kernel
theorem dX5_read_90 : decode cX5_read 90 = .ok (.iadd, 1) := by decide +kernel
theorem dX5_read_91 : decode cX5_read 91 = .ok (.iaload, 1) := by decide +kernel
theorem dX5_read_92 : decode cX5_read 92 = .ok (.istore 6, 2) := by decide +kernel
theorem dX5_read_94 : decode cX5_read 94 = .ok (.aload_n 0, 1) := by decide +kernel
theorem dX5_read_95 : decode cX5_read 95 = .ok (.iload 6, 2) := by decide +kernel
theorem dX5_read_97 : decode cX5_read 97 = .ok (.iload 4, 2) := by decide +kernel
theorem dX5_read_99 : decode cX5_read 99 = .ok (.invokevirtual 210, 3) := by decide +kernel
theorem dX5_read_102 : decode cX5_read 102 = .ok (.istore 7, 2) := by decide +kernel
theorem dX5_read_104 : decode cX5_read 104 = .ok (.iload 7, 2) := by decide +kernel
theorem dX5_read_106 : decode cX5_read 106 = .ok (.iconst (-1), 1) := by decide +kernel
theorem dX5_read_107 : decode cX5_read 107 = .ok (.if_icmp .eq 44, 3) := by decide +kernel
theorem dX5_read_110 : decode cX5_read 110 = .ok (.aload_n 0, 1) := by decide +kernel
theorem dX5_read_111 : decode cX5_read 111 = .ok (.getfield 60, 3) := by decide +kernel
theorem dX5_read_114 : decode cX5_read 114 = .ok (.iload 7, 2) := by decide +kernel
theorem dX5_read_116 : decode cX5_read 116 = .ok (.iload 6, 2) := by decide +kernel
theorem dX5_read_118 : decode cX5_read 118 = .ok (.invokestatic 104, 3) := by decide +kernel
theorem dX5_read_121 : decode cX5_read 121 = .ok (.iaload, 1) := by decide +kernel
theorem dX5_read_122 : decode cX5_read 122 = .ok (.iload_n 3, 1) := by decide +kernel
theorem dX5_read_123 : decode cX5_read 123 = .ok (.ishr, 1) := by decide +kernel
theorem dX5_read_124 : decode cX5_read 124 = .ok (.iconst 1, 1) := by decide +kernel
theorem dX5_read_125 : decode cX5_read 125 = .ok (.iand, 1) := by decide +kernel
theorem dX5_read_126 : decode cX5_read 126 = .ok (.iconst 1, 1) := by decide +kernel
theorem dX5_read_127 : decode cX5_read 127 = .ok (.if_icmp .ne 24, 3) := by decide +kernel
theorem dX5_read_130 : decode cX5_read 130 = .ok (.aload_n 0, 1) := by decide +kernel
theorem dX5_read_131 : decode cX5_read 131 = .ok (.iload 7, 2) := by decide +kernel
theorem dX5_read_133 : decode cX5_read 133 = .ok (.iload 6, 2) := by decide +kernel
theorem dX5_read_135 : decode cX5_read 135 = .ok (.invokevirtual 213, 3) := by decide +kernel
theorem dX5_read_138 : decode cX5_read 138 = .ok (.aload_n 0, 1) := by decide +kernel
theorem dX5_read_139 : decode cX5_read 139 = .ok (.iload 6, 2) := by decide +kernel
theorem dX5_read_141 : decode cX5_read 141 = .ok (.iload 4, 2) := by decide +kernel
theorem dX5_read_143 : decode cX5_read 143 = .ok (.invokevirtual 210, 3) := by decide +kernel
theorem dX5_read_146 : decode cX5_read 146 = .ok (.istore 7, 2) := by decide +kernel
theorem dX5_read_148 : decode cX5_read 148 = .ok (.goto (-44), 3) := by decide +kernel
theorem dX5_read_151 : decode cX5_read 151 = .ok (.iload 7, 2) := by decide +kernel
theorem dX5_read_153 : decode cX5_read 153 = .ok (.iconst (-1), 1) := by decide +kernel
theorem dX5_read_154 : decode cX5_read 154 = .ok (.if_icmp .ne 8, 3) := by decide +kernel
theorem dX5_read_157 : decode cX5_read 157 = .ok (.bipush (-2), 2) := by decide +kernel
theorem dX5_read_159 : decode cX5_read 159 = .ok (.goto 39, 3) := by decide +kernel
theorem dX5_read_162 : decode cX5_read 162 = .ok (.iload_n 3, 1) := by decide +kernel
theorem dX5_read_163 : decode cX5_read 163 = .ok (.aload_n 0, 1) := by decide +kernel
theorem dX5_read_164 : decode cX5_read 164 = .ok (.getfield 54, 3) := by decide +kernel
theorem dX5_read_167 : decode cX5_read 167 = .ok (.iload 7, 2) := by decide +kernel
theorem dX5_read_169 : decode cX5_read 169 = .ok (.iload 6, 2) := by decide +kernel
theorem dX5_read_171 : decode cX5_read 171 = .ok (.invokestatic 104, 3) := by decide +kernel
theorem dX5_read_174 : decode cX5_read 174 = .ok (.iaload, 1) := by decide +kernel
theorem dX5_read_175 : decode cX5_read 175 = .ok (.if_icmp .ge 22, 3) := by decide +kernel
theorem dX5_read_178 : decode cX5_read 178 = .ok (.aload_n 0, 1) := by decide +kernel
theorem dX5_read_179 : decode cX5_read 179 = .ok (.getfield 57, 3) := by decide +kernel
theorem dX5_read_182 : decode cX5_read 182 = .ok (.iconst 4, 1) := by decide +kernel
theorem dX5_read_183 : decode cX5_read 183 = .ok (.iload 7, 2) := by decide +kernel
theorem dX5_read_185 : decode cX5_read 185 = .ok (.iload 6, 2) := by decide +kernel
theorem dX5_read_187 : decode cX5_read 187 = .ok (.invokestatic 104, 3) := by decide +kernel
theorem dX5_read_190 : decode cX5_read 190 = .ok (.imul, 1) := by decide +kernel
theorem dX5_read_191 : decode cX5_read 191 = .ok (.iload_n 3, 1) := by decide +kernel
theorem dX5_read_192 : decode cX5_read 192 = .ok (.iadd, 1) := by decide +kernel
theorem dX5_read_193 : decode cX5_read 193 = .ok (.iaload, 1) := by decide +kernel
theorem dX5_read_194 : decode cX5_read 194 = .ok (.goto 4, 3) := by decide +kernel
theorem dX5_read_197 : decode cX5_read 197 = .ok (.iconst (-1), 1) := by decide +kernel
theorem dX5_read_198 : decode cX5_read 198 = .ok (.ireturn, 1) := by decide +kernel
theorem dX5_nearest_0 : decode cX5_nearest 0 = .ok (.iconst 0, 1) := by decide +kernel
theorem dX5_nearest_1 : decode cX5_nearest 1 = .ok (.istore_n 3, 1) := by decide +kernel
theorem dX5_nearest_2 : decode cX5_nearest 2 = .ok (.iload_n 3, 1) := by decide +kernel
theorem dX5_nearest_3 : decode cX5_nearest 3 = .ok (.aload_n 0, 1) := by decide +kernel
theorem dX5_nearest_4 : decode cX5_nearest 4 = .ok (.getfield 45, 3) := by decide +kernel
theorem dX5_nearest_7 : decode cX5_nearest 7 = .ok (.iload_n 1, 1) := by decide +kernel
theorem dX5_nearest_8 : decode cX5_nearest 8 = .ok (.iaload, 1) := by decide +kernel
theorem dX5_nearest_9 : decode cX5_nearest 9 = .ok (.if_icmp .ge 46, 3) := by decide +kernel
theorem dX5_nearest_12 : decode cX5_nearest 12 = .ok (.aload_n 0, 1) := by decide +kernel
theorem dX5_nearest_13 : decode cX5_nearest 13 = .ok (.getfield 48, 3) := by decide +kernel
theorem dX5_nearest_16 : decode cX5_nearest 16 = .ok (.bipush 8, 2) := by decide +kernel
theorem dX5_nearest_18 : decode cX5_nearest 18 = .ok (.iload_n 1, 1) := by decide +kernel
theorem dX5_nearest_19 : decode cX5_nearest 19 = .ok (.imul, 1) := by decide +kernel
theorem dX5_nearest_20 : decode cX5_nearest 20 = .ok (.iload_n 3, 1) := by decide +kernel
theorem dX5_nearest_21 : decode cX5_nearest 21 = .ok (.iadd, 1) := by decide +kernel
theorem dX5_nearest_22 : decode cX5_nearest 22 = .ok (.iaload, 1) := by decide +kernel
theorem dX5_nearest_23 : decode cX5_nearest 23 = .ok (.istore 4, 2) := by decide +kernel
theorem dX5_nearest_25 : decode cX5_nearest 25 = .ok (.aload_n 0, 1) := by decide +kernel
theorem dX5_nearest_26 : decode cX5_nearest 26 = .ok (.iload_n 1, 1) := by decide +kernel
theorem dX5_nearest_27 : decode cX5_nearest 27 = .ok (.iload 4, 2) := by decide +kernel
theorem dX5_nearest_29 : decode cX5_nearest 29 = .ok (.invokevirtual 123, 3) := by decide +kernel
theorem dX5_nearest_32 : decode cX5_nearest 32 = .ok (.ifCond .eq 17, 3) := by decide +kernel
theorem dX5_nearest_35 : decode cX5_nearest 35 = .ok (.aload_n 0, 1) := by decide +kernel
theorem dX5_nearest_36 : decode cX5_nearest 36 = .ok (.getfield 13, 3) := by decide +kernel
theorem dX5_nearest_39 : decode cX5_nearest 39 = .ok (.iload 4, 2) := by decide +kernel
theorem dX5_nearest_41 : decode cX5_nearest 41 = .ok (.iaload, 1) := by decide +kernel
theorem dX5_nearest_42 : decode cX5_nearest 42 = .ok (.iload_n 2, 1) := by decide +kernel
theorem dX5_nearest_43 : decode cX5_nearest 43 = .ok (.if_icmp .ne 6, 3) := by decide +kernel
theorem dX5_nearest_46 : decode cX5_nearest 46 = .ok (.iload 4, 2) := by decide +kernel
theorem dX5_nearest_48 : decode cX5_nearest 48 = .ok (.ireturn, 1) := by decide +kernel
theorem dX5_nearest_49 : decode cX5_nearest 49 = .ok (.iinc 3 1, 3) := by decide +kernel
theorem dX5_nearest_52 : decode cX5_nearest 52 = .ok (.goto (-50), 3) := by decide +kernel
theorem dX5_nearest_55 : decode cX5_nearest 55 = .ok (.aload_n 0, 1) := by decide +kernel
theorem dX5_nearest_56 : decode cX5_nearest 56 = .ok (.iload_n 1, 1) := by decide +kernel
theorem dX5_nearest_57 : decode cX5_nearest 57 = .ok (.iconst 0, 1) := by decide +kernel
theorem dX5_nearest_58 : decode cX5_nearest 58 = .ok (.invokevirtual 146, 3) := by decide +kernel
theorem dX5_nearest_61 : decode cX5_nearest 61 = .ok (.ireturn, 1) := by decide +kernel
theorem dX5_pass_0 : decode cX5_pass 0 = .ok (.aload_n 0, 1) := by decide +kernel
theorem dX5_pass_1 : decode cX5_pass 1 = .ok (.iload_n 1, 1) := by decide +kernel
theorem dX5_pass_2 : decode cX5_pass 2 = .ok (.iconst 1, 1) := by decide +kernel
theorem dX5_pass_3 : decode cX5_pass 3 = .ok (.bipush 100, 2) := by decide +kernel
theorem dX5_pass_5 : decode cX5_pass 5 = .ok (.invokestatic 81, 3) := by decide +kernel
theorem dX5_pass_8 : decode cX5_pass 8 = .ok (.ifCond .ne 7, 3) := by decide +kernel
theorem dX5_pass_11 : decode cX5_pass 11 = .ok (.iconst 1, 1) := by decide +kernel
theorem dX5_pass_12 : decode cX5_pass 12 = .ok (.goto 20, 3) := by decide +kernel
theorem dX5_pass_15 : decode cX5_pass 15 = .ok (.aload_n 0, 1) := by decide +kernel
theorem dX5_pass_16 : decode cX5_pass 16 = .ok (.getfield 98, 3) := by decide +kernel
theorem dX5_pass_19 : decode cX5_pass 19 = .ok (.iload_n 1, 1) := by decide +kernel
theorem dX5_pass_20 : decode cX5_pass 20 = .ok (.iadd, 1) := by decide +kernel
theorem dX5_pass_21 : decode cX5_pass 21 = .ok (.sipush 3000, 3) := by decide +kernel
theorem dX5_pass_24 : decode cX5_pass 24 = .ok (.if_icmp .le 7, 3) := by decide +kernel
theorem dX5_pass_27 : decode cX5_pass 27 = .ok (.iconst 2, 1) := by decide +kernel
theorem dX5_pass_28 : decode cX5_pass 28 = .ok (.goto 4, 3) := by decide +kernel
theorem dX5_pass_31 : decode cX5_pass 31 = .ok (.iconst 0, 1) := by decide +kernel
theorem dX5_pass_32 : decode cX5_pass 32 = .ok (.invokevirtual 91, 3) := by decide +kernel
theorem dX5_pass_35 : decode cX5_pass 35 = .ok (.ifCond .ne 5, 3) := by decide +kernel
theorem dX5_pass_38 : decode cX5_pass 38 = .ok (.iconst 0, 1) := by decide +kernel
theorem dX5_pass_39 : decode cX5_pass 39 = .ok (.ireturn, 1) := by decide +kernel
theorem dX5_pass_40 : decode cX5_pass 40 = .ok (.iconst 0, 1) := by decide +kernel
theorem dX5_pass_41 : decode cX5_pass 41 = .ok (.istore_n 2, 1) := by decide +kernel
theorem dX5_pass_42 : decode cX5_pass 42 = .ok (.iload_n 2, 1) := by decide +kernel
theorem dX5_pass_43 : decode cX5_pass 43 = .ok (.iload_n 1, 1) := by decide +kernel
theorem dX5_pass_44 : decode cX5_pass 44 = .ok (.if_icmp .ge 195, 3) := by decide +kernel
theorem dX5_pass_47 : decode cX5_pass 47 = .ok (.aload_n 0, 1) := by decide +kernel
theorem dX5_pass_48 : decode cX5_pass 48 = .ok (.dup, 1) := by decide +kernel
theorem dX5_pass_49 : decode cX5_pass 49 = .ok (.getfield 98, 3) := by decide +kernel
theorem dX5_pass_52 : decode cX5_pass 52 = .ok (.iconst 1, 1) := by decide +kernel
theorem dX5_pass_53 : decode cX5_pass 53 = .ok (.iadd, 1) := by decide +kernel
theorem dX5_pass_54 : decode cX5_pass 54 = .ok (.putfield 98, 3) := by decide +kernel
theorem dX5_pass_57 : decode cX5_pass 57 = .ok (.aload_n 0, 1) := by decide +kernel
theorem dX5_pass_58 : decode cX5_pass 58 = .ok (.invokevirtual 216, 3) := by decide +kernel
theorem dX5_pass_61 : decode cX5_pass 61 = .ok (.iconst 0, 1) := by decide +kernel
theorem dX5_pass_62 : decode cX5_pass 62 = .ok (.istore_n 3, 1) := by decide +kernel
theorem dX5_pass_63 : decode cX5_pass 63 = .ok (.iload_n 3, 1) := by decide +kernel
theorem dX5_pass_64 : decode cX5_pass 64 = .ok (.aload_n 0, 1) := by decide +kernel
theorem dX5_pass_65 : decode cX5_pass 65 = .ok (.getfield 78, 3) := by decide +kernel
theorem dX5_pass_68 : decode cX5_pass 68 = .ok (.if_icmp .ge 23, 3) := by decide +kernel
theorem dX5_pass_71 : decode cX5_pass 71 = .ok (.aload_n 0, 1) := by decide +kernel
theorem dX5_pass_72 : decode cX5_pass 72 = .ok (.getfield 20, 3) := by decide +kernel
theorem dX5_pass_75 : decode cX5_pass 75 = .ok (.iload_n 3, 1) := by decide +kernel
theorem dX5_pass_76 : decode cX5_pass 76 = .ok (.baload, 1) := by decide +kernel
theorem dX5_pass_77 : decode cX5_pass 77 = .ok (.ifCond .eq 8, 3) := by decide +kernel
theorem dX5_pass_80 : decode cX5_pass 80 = .ok (.aload_n 0, 1) := by decide +kernel
theorem dX5_pass_81 : decode cX5_pass 81 = .ok (.iload_n 3, 1) := by decide +kernel
theorem dX5_pass_82 : decode cX5_pass 82 = .ok (.invokevirtual 219, 3) := by decide +kernel
theorem dX5_pass_85 : decode cX5_pass 85 = .ok (.iinc 3 1, 3) := by decide +kernel
theorem dX5_pass_88 : decode cX5_pass 88 = .ok (.goto (-25), 3) := by decide +kernel
theorem dX5_pass_91 : decode cX5_pass 91 = .ok (.iconst 0, 1) := by decide +kernel
theorem dX5_pass_92 : decode cX5_pass 92 = .ok (.istore_n 3, 1) := by decide +kernel
theorem dX5_pass_93 : decode cX5_pass 93 = .ok (.iload_n 3, 1) := by decide +kernel
theorem dX5_pass_94 : decode cX5_pass 94 = .ok (.aload_n 0, 1) := by decide +kernel
theorem dX5_pass_95 : decode cX5_pass 95 = .ok (.getfield 88, 3) := by decide +kernel
theorem dX5_pass_98 : decode cX5_pass 98 = .ok (.if_icmp .ge 51, 3) := by decide +kernel
theorem dX5_pass_101 : decode cX5_pass 101 = .ok (.aload_n 0, 1) := by decide +kernel
theorem dX5_pass_102 : decode cX5_pass 102 = .ok (.getfield 63, 3) := by decide +kernel
theorem dX5_pass_105 : decode cX5_pass 105 = .ok (.iload_n 3, 1) := by decide +kernel
theorem dX5_pass_106 : decode cX5_pass 106 = .ok (.aload_n 0, 1) := by decide +kernel
theorem dX5_pass_107 : decode cX5_pass 107 = .ok (.getfield 63, 3) := by decide +kernel
theorem dX5_pass_110 : decode cX5_pass 110 = .ok (.iload_n 3, 1) := by decide +kernel
theorem dX5_pass_111 : decode cX5_pass 111 = .ok (.iaload, 1) := by decide +kernel
theorem dX5_pass_112 : decode cX5_pass 112 = .ok (.iconst 1, 1) := by decide +kernel
theorem dX5_pass_113 : decode cX5_pass 113 = .ok (.if_icmp .ne 23, 3) := by decide +kernel
theorem dX5_pass_116 : decode cX5_pass 116 = .ok (.aload_n 0, 1) := by decide +kernel
theorem dX5_pass_117 : decode cX5_pass 117 = .ok (.getfield 98, 3) := by decide +kernel
theorem dX5_pass_120 : decode cX5_pass 120 = .ok (.aload_n 0, 1) := by decide +kernel
theorem dX5_pass_121 : decode cX5_pass 121 = .ok (.getfield 66, 3) := by decide +kernel
theorem dX5_pass_124 : decode cX5_pass 124 = .ok (.iload_n 3, 1) := by decide +kernel
theorem dX5_pass_125 : decode cX5_pass 125 = .ok (.iaload, 1) := by decide +kernel
theorem dX5_pass_126 : decode cX5_pass 126 = .ok (.bipush 20, 2) := by decide +kernel
theorem dX5_pass_128 : decode cX5_pass 128 = .ok (.iadd, 1) := by decide +kernel
theorem dX5_pass_129 : decode cX5_pass 129 = .ok (.if_icmp .lt 7, 3) := by decide +kernel
theorem dX5_pass_132 : decode cX5_pass 132 = .ok (.iconst 2, 1) := by decide +kernel
theorem dX5_pass_133 : decode cX5_pass 133 = .ok (.goto 9, 3) := by decide +kernel
theorem dX5_pass_136 : decode cX5_pass 136 = .ok (.aload_n 0, 1) := by decide +kernel
theorem dX5_pass_137 : decode cX5_pass 137 = .ok (.getfield 63, 3) := by decide +kernel
theorem dX5_pass_140 : decode cX5_pass 140 = .ok (.iload_n 3, 1) := by decide +kernel
theorem dX5_pass_141 : decode cX5_pass 141 = .ok (.iaload, 1) := by decide +kernel
theorem dX5_pass_142 : decode cX5_pass 142 = .ok (.iastore, 1) := by decide +kernel
theorem dX5_pass_143 : decode cX5_pass 143 = .ok (.iinc 3 1, 3) := by decide +kernel
theorem dX5_pass_146 : decode cX5_pass 146 = .ok (.goto (-53), 3) := by decide +kernel
theorem dX5_pass_149 : decode cX5_pass 149 = .ok (.iconst 0, 1) := by decide +kernel
theorem dX5_pass_150 : decode cX5_pass 150 = .ok (.istore_n 3, 1) := by decide +kernel
theorem dX5_pass_151 : decode cX5_pass 151 = .ok (.iload_n 3, 1) := by decide +kernel
theorem dX5_pass_152 : decode cX5_pass 152 = .ok (.aload_n 0, 1) := by decide +kernel
theorem dX5_pass_153 : decode cX5_pass 153 = .ok (.getfield 78, 3) := by decide +kernel
theorem dX5_pass_156 : decode cX5_pass 156 = .ok (.if_icmp .ge 23, 3) := by decide +kernel
theorem dX5_pass_159 : decode cX5_pass 159 = .ok (.aload_n 0, 1) := by decide +kernel
theorem dX5_pass_160 : decode cX5_pass 160 = .ok (.getfield 20, 3) := by decide +kernel
theorem dX5_pass_163 : decode cX5_pass 163 = .ok (.iload_n 3, 1) := by decide +kernel
theorem dX5_pass_164 : decode cX5_pass 164 = .ok (.baload, 1) := by decide +kernel
theorem dX5_pass_165 : decode cX5_pass 165 = .ok (.ifCond .eq 8, 3) := by decide +kernel
theorem dX5_pass_168 : decode cX5_pass 168 = .ok (.aload_n 0, 1) := by decide +kernel
theorem dX5_pass_169 : decode cX5_pass 169 = .ok (.iload_n 3, 1) := by decide +kernel
theorem dX5_pass_170 : decode cX5_pass 170 = .ok (.invokevirtual 222, 3) := by decide +kernel
theorem dX5_pass_173 : decode cX5_pass 173 = .ok (.iinc 3 1, 3) := by decide +kernel
theorem dX5_pass_176 : decode cX5_pass 176 = .ok (.goto (-25), 3) := by decide +kernel
theorem dX5_pass_179 : decode cX5_pass 179 = .ok (.aload_n 0, 1) := by decide +kernel
theorem dX5_pass_180 : decode cX5_pass 180 = .ok (.invokevirtual 225, 3) := by decide +kernel
theorem dX5_pass_183 : decode cX5_pass 183 = .ok (.iconst 0, 1) := by decide +kernel
theorem dX5_pass_184 : decode cX5_pass 184 = .ok (.istore_n 3, 1) := by decide +kernel
theorem dX5_pass_185 : decode cX5_pass 185 = .ok (.iload_n 3, 1) := by decide +kernel
theorem dX5_pass_186 : decode cX5_pass 186 = .ok (.aload_n 0, 1) := by decide +kernel
theorem dX5_pass_187 : decode cX5_pass 187 = .ok (.getfield 85, 3) := by decide +kernel
theorem dX5_pass_190 : decode cX5_pass 190 = .ok (.if_icmp .ge 32, 3) := by decide +kernel
theorem dX5_pass_193 : decode cX5_pass 193 = .ok (.aload_n 0, 1) := by decide +kernel
theorem dX5_pass_194 : decode cX5_pass 194 = .ok (.getfield 45, 3) := by decide +kernel
theorem dX5_pass_197 : decode cX5_pass 197 = .ok (.iload_n 3, 1) := by decide +kernel
theorem dX5_pass_198 : decode cX5_pass 198 = .ok (.iaload, 1) := by decide +kernel
theorem dX5_pass_199 : decode cX5_pass 199 = .ok (.iconst 3, 1) := by decide +kernel
theorem dX5_pass_200 : decode cX5_pass 200 = .ok (.if_icmp .le 16, 3) := by decide +kernel
theorem dX5_pass_203 : decode cX5_pass 203 = .ok (.aload_n 0, 1) := by decide +kernel
theorem dX5_pass_204 : decode cX5_pass 204 = .ok (.iload_n 3, 1) := by decide +kernel
theorem dX5_pass_205 : decode cX5_pass 205 = .ok (.invokevirtual 228, 3) := by decide +kernel
theorem dX5_pass_208 : decode cX5_pass 208 = .ok (.ifCond .ne 8, 3) := by decide +kernel
theorem dX5_pass_211 : decode cX5_pass 211 = .ok (.aload_n 0, 1) := by decide +kernel
theorem dX5_pass_212 : decode cX5_pass 212 = .ok (.iload_n 3, 1) := by decide +kernel
theorem dX5_pass_213 : decode cX5_pass 213 = .ok (.invokevirtual 231, 3) := by decide +kernel
theorem dX5_pass_216 : decode cX5_pass 216 = .ok (.iinc 3 1, 3) := by decide +kernel
theorem dX5_pass_219 : decode cX5_pass 219 = .ok (.goto (-34), 3) := by decide +kernel
theorem dX5_pass_222 : decode cX5_pass 222 = .ok (.aload_n 0, 1) := by decide +kernel
theorem dX5_pass_223 : decode cX5_pass 223 = .ok (.getfield 108, 3) := by decide +kernel
theorem dX5_pass_226 : decode cX5_pass 226 = .ok (.ifCond .eq 7, 3) := by decide +kernel
theorem dX5_pass_229 : decode cX5_pass 229 = .ok (.aload_n 0, 1) := by decide +kernel
theorem dX5_pass_230 : decode cX5_pass 230 = .ok (.invokevirtual 234, 3) := by decide +kernel
theorem dX5_pass_233 : decode cX5_pass 233 = .ok (.iinc 2 1, 3) := by decide +kernel
theorem dX5_pass_236 : decode cX5_pass 236 = .ok (.goto (-194), 3) := by decide +kernel
theorem dX5_pass_239 : decode cX5_pass 239 = .ok (.aload_n 0, 1) := by decide +kernel
theorem dX5_pass_240 : decode cX5_pass 240 = .ok (.getfield 98, 3) := by decide +kernel
theorem dX5_pass_243 : decode cX5_pass 243 = .ok (.ireturn, 1) := by decide +kernel
theorem dX5_counts_0 : decode cX5_counts 0 = .ok (.iconst 0, 1) := by decide +kernel
theorem dX5_counts_1 : decode cX5_counts 1 = .ok (.istore_n 1, 1) := by decide +kernel
theorem dX5_counts_2 : decode cX5_counts 2 = .ok (.iload_n 1, 1) := by decide +kernel
theorem dX5_counts_3 : decode cX5_counts 3 = .ok (.aload_n 0, 1) := by decide +kernel
theorem dX5_counts_4 : decode cX5_counts 4 = .ok (.getfield 78, 3) := by decide +kernel
theorem dX5_counts_7 : decode cX5_counts 7 = .ok (.if_icmp .ge 86, 3) := by decide +kernel
theorem dX5_counts_10 : decode cX5_counts 10 = .ok (.aload_n 0, 1) := by decide +kernel
theorem dX5_counts_11 : decode cX5_counts 11 = .ok (.getfield 20, 3) := by decide +kernel
theorem dX5_counts_14 : decode cX5_counts 14 = .ok (.iload_n 1, 1) := by decide +kernel
theorem dX5_counts_15 : decode cX5_counts 15 = .ok (.baload, 1) := by decide +kernel
theorem dX5_counts_16 : decode cX5_counts 16 = .ok (.ifCond .ne 71, 3) := by decide +kernel
theorem dX5_counts_19 : decode cX5_counts 19 = .ok (.aload_n 0, 1) := by decide +kernel
theorem dX5_counts_20 : decode cX5_counts 20 = .ok (.getfield 27, 3) := by decide +kernel
theorem dX5_counts_23 : decode cX5_counts 23 = .ok (.iload_n 1, 1) := by decide +kernel
theorem dX5_counts_24 : decode cX5_counts 24 = .ok (.baload, 1) := by decide +kernel
theorem dX5_counts_25 : decode cX5_counts 25 = .ok (.ifCond .eq 62, 3) := by decide +kernel
theorem dX5_counts_28 : decode cX5_counts 28 = .ok (.aload_n 0, 1) := by decide +kernel
theorem dX5_counts_29 : decode cX5_counts 29 = .ok (.getfield 98, 3) := by decide +kernel
theorem dX5_counts_32 : decode cX5_counts 32 = .ok (.aload_n 0, 1) := by decide +kernel
theorem dX5_counts_33 : decode cX5_counts 33 = .ok (.getfield 24, 3) := by decide +kernel
theorem dX5_counts_36 : decode cX5_counts 36 = .ok (.iload_n 1, 1) := by decide +kernel
theorem dX5_counts_37 : decode cX5_counts 37 = .ok (.iaload, 1) := by decide +kernel
theorem dX5_counts_38 : decode cX5_counts 38 = .ok (.iconst 3, 1) := by decide +kernel
theorem dX5_counts_39 : decode cX5_counts 39 = .ok (.iadd, 1) := by decide +kernel
theorem dX5_counts_40 : decode cX5_counts 40 = .ok (.if_icmp .lt 47, 3) := by decide +kernel
theorem dX5_counts_43 : decode cX5_counts 43 = .ok (.aload_n 0, 1) := by decide +kernel
theorem dX5_counts_44 : decode cX5_counts 44 = .ok (.getfield 27, 3) := by decide +kernel
theorem dX5_counts_47 : decode cX5_counts 47 = .ok (.iload_n 1, 1) := by decide +kernel
theorem dX5_counts_48 : decode cX5_counts 48 = .ok (.iconst 0, 1) := by decide +kernel
theorem dX5_counts_49 : decode cX5_counts 49 = .ok (.bastore, 1) := by decide +kernel
theorem dX5_counts_50 : decode cX5_counts 50 = .ok (.iconst 0, 1) := by decide +kernel
theorem dX5_counts_51 : decode cX5_counts 51 = .ok (.istore_n 2, 1) := by decide +kernel
theorem dX5_counts_52 : decode cX5_counts 52 = .ok (.iload_n 2, 1) := by decide +kernel
theorem dX5_counts_53 : decode cX5_counts 53 = .ok (.aload_n 0, 1) := by decide +kernel
theorem dX5_counts_54 : decode cX5_counts 54 = .ok (.getfield 85, 3) := by decide +kernel
theorem dX5_counts_57 : decode cX5_counts 57 = .ok (.if_icmp .ge 30, 3) := by decide +kernel
theorem dX5_counts_60 : decode cX5_counts 60 = .ok (.aload_n 0, 1) := by decide +kernel
theorem dX5_counts_61 : decode cX5_counts 61 = .ok (.iload_n 2, 1) := by decide +kernel
theorem dX5_counts_62 : decode cX5_counts 62 = .ok (.iload_n 1, 1) := by decide +kernel
theorem dX5_counts_63 : decode cX5_counts 63 = .ok (.invokevirtual 112, 3) := by decide +kernel
theorem dX5_counts_66 : decode cX5_counts 66 = .ok (.iconst (-1), 1) := by decide +kernel
theorem dX5_counts_67 : decode cX5_counts 67 = .ok (.if_icmp .eq 14, 3) := by decide +kernel
theorem dX5_counts_70 : decode cX5_counts 70 = .ok (.aload_n 0, 1) := by decide +kernel
theorem dX5_counts_71 : decode cX5_counts 71 = .ok (.iload_n 2, 1) := by decide +kernel
theorem dX5_counts_72 : decode cX5_counts 72 = .ok (.iload_n 1, 1) := by decide +kernel
theorem dX5_counts_73 : decode cX5_counts 73 = .ok (.invokevirtual 115, 3) := by decide +kernel
theorem dX5_counts_76 : decode cX5_counts 76 = .ok (.aload_n 0, 1) := by decide +kernel
theorem dX5_counts_77 : decode cX5_counts 77 = .ok (.iload_n 2, 1) := by decide +kernel
theorem dX5_counts_78 : decode cX5_counts 78 = .ok (.invokevirtual 119, 3) := by decide +kernel
theorem dX5_counts_81 : decode cX5_counts 81 = .ok (.iinc 2 1, 3) := by decide +kernel
theorem dX5_counts_84 : decode cX5_counts 84 = .ok (.goto (-32), 3) := by decide +kernel
theorem dX5_counts_87 : decode cX5_counts 87 = .ok (.iinc 1 1, 3) := by decide +kernel
theorem dX5_counts_90 : decode cX5_counts 90 = .ok (.goto (-88), 3) := by decide +kernel
theorem dX5_counts_93 : decode cX5_counts 93 = .ok (.iconst 0, 1) := by decide +kernel
theorem dX5_counts_94 : decode cX5_counts 94 = .ok (.istore_n 1, 1) := by decide +kernel
theorem dX5_counts_95 : decode cX5_counts 95 = .ok (.iload_n 1, 1) := by decide +kernel
theorem dX5_counts_96 : decode cX5_counts 96 = .ok (.aload_n 0, 1) := by decide +kernel
theorem dX5_counts_97 : decode cX5_counts 97 = .ok (.getfield 78, 3) := by decide +kernel
theorem dX5_counts_100 : decode cX5_counts 100 = .ok (.if_icmp .ge 38, 3) := by decide +kernel
theorem dX5_counts_103 : decode cX5_counts 103 = .ok (.aload_n 0, 1) := by decide +kernel
theorem dX5_counts_104 : decode cX5_counts 104 = .ok (.getfield 27, 3) := by decide +kernel
theorem dX5_counts_107 : decode cX5_counts 107 = .ok (.iload_n 1, 1) := by decide +kernel
theorem dX5_counts_108 : decode cX5_counts 108 = .ok (.aload_n 0, 1) := by decide +kernel
theorem dX5_counts_109 : decode cX5_counts 109 = .ok (.getfield 27, 3) := by decide +kernel
theorem dX5_counts_112 : decode cX5_counts 112 = .ok (.iload_n 1, 1) := by decide +kernel
theorem dX5_counts_113 : decode cX5_counts 113 = .ok (.baload, 1) := by decide +kernel
theorem dX5_counts_114 : decode cX5_counts 114 = .ok (.ifCond .ne 12, 3) := by decide +kernel
theorem dX5_counts_117 : decode cX5_counts 117 = .ok (.aload_n 0, 1) := by decide +kernel
theorem dX5_counts_118 : decode cX5_counts 118 = .ok (.getfield 20, 3) := by decide +kernel
theorem dX5_counts_121 : decode cX5_counts 121 = .ok (.iload_n 1, 1) := by decide +kernel
theorem dX5_counts_122 : decode cX5_counts 122 = .ok (.baload, 1) := by decide +kernel
theorem dX5_counts_123 : decode cX5_counts 123 = .ok (.ifCond .eq 7, 3) := by decide +kernel
theorem dX5_counts_126 : decode cX5_counts 126 = .ok (.iconst 1, 1) := by decide +kernel
theorem dX5_counts_127 : decode cX5_counts 127 = .ok (.goto 4, 3) := by decide +kernel
theorem dX5_counts_130 : decode cX5_counts 130 = .ok (.iconst 0, 1) := by decide +kernel
theorem dX5_counts_131 : decode cX5_counts 131 = .ok (.bastore, 1) := by decide +kernel
theorem dX5_counts_132 : decode cX5_counts 132 = .ok (.iinc 1 1, 3) := by decide +kernel
theorem dX5_counts_135 : decode cX5_counts 135 = .ok (.goto (-40), 3) := by decide +kernel
theorem dX5_counts_138 : decode cX5_counts 138 = .ok (.return_, 1) := by decide +kernel
theorem dX5_sorts_0 : decode cX5_sorts 0 = .ok (.iconst 0, 1) := by decide +kernel
theorem dX5_sorts_1 : decode cX5_sorts 1 = .ok (.istore_n 2, 1) := by decide +kernel
theorem dX5_sorts_2 : decode cX5_sorts 2 = .ok (.iload_n 2, 1) := by decide +kernel
theorem dX5_sorts_3 : decode cX5_sorts 3 = .ok (.aload_n 0, 1) := by decide +kernel
theorem dX5_sorts_4 : decode cX5_sorts 4 = .ok (.getfield 85, 3) := by decide +kernel
theorem dX5_sorts_7 : decode cX5_sorts 7 = .ok (.if_icmp .ge 115, 3) := by decide +kernel
theorem dX5_sorts_10 : decode cX5_sorts 10 = .ok (.aload_n 0, 1) := by decide +kernel
theorem dX5_sorts_11 : decode cX5_sorts 11 = .ok (.getfield 51, 3) := by decide +kernel
theorem dX5_sorts_14 : decode cX5_sorts 14 = .ok (.iload_n 1, 1) := by decide +kernel
theorem dX5_sorts_15 : decode cX5_sorts 15 = .ok (.iload_n 2, 1) := by decide +kernel
theorem dX5_sorts_16 : decode cX5_sorts 16 = .ok (.invokestatic 104, 3) := by decide +kernel
theorem dX5_sorts_19 : decode cX5_sorts 19 = .ok (.iaload, 1) := by decide +kernel
theorem dX5_sorts_20 : decode cX5_sorts 20 = .ok (.ifCond .le 7, 3) := by decide +kernel
theorem dX5_sorts_23 : decode cX5_sorts 23 = .ok (.iconst 1, 1) := by decide +kernel
theorem dX5_sorts_24 : decode cX5_sorts 24 = .ok (.goto 4, 3) := by decide +kernel
theorem dX5_sorts_27 : decode cX5_sorts 27 = .ok (.iconst 0, 1) := by decide +kernel
theorem dX5_sorts_28 : decode cX5_sorts 28 = .ok (.istore_n 3, 1) := by decide +kernel
theorem dX5_sorts_29 : decode cX5_sorts 29 = .ok (.aload_n 0, 1) := by decide +kernel
theorem dX5_sorts_30 : decode cX5_sorts 30 = .ok (.iload_n 2, 1) := by decide +kernel
theorem dX5_sorts_31 : decode cX5_sorts 31 = .ok (.iload_n 1, 1) := by decide +kernel
theorem dX5_sorts_32 : decode cX5_sorts 32 = .ok (.invokevirtual 112, 3) := by decide +kernel
theorem dX5_sorts_35 : decode cX5_sorts 35 = .ok (.iconst (-1), 1) := by decide +kernel
theorem dX5_sorts_36 : decode cX5_sorts 36 = .ok (.if_icmp .eq 7, 3) := by decide +kernel
theorem dX5_sorts_39 : decode cX5_sorts 39 = .ok (.iconst 1, 1) := by decide +kernel
theorem dX5_sorts_40 : decode cX5_sorts 40 = .ok (.goto 4, 3) := by decide +kernel
theorem dX5_sorts_43 : decode cX5_sorts 43 = .ok (.iconst 0, 1) := by decide +kernel
theorem dX5_sorts_44 : decode cX5_sorts 44 = .ok (.istore 4, 2) := by decide +kernel
theorem dX5_sorts_46 : decode cX5_sorts 46 = .ok (.iload_n 3, 1) := by decide +kernel
theorem dX5_sorts_47 : decode cX5_sorts 47 = .ok (.ifCond .eq 54, 3) := by decide +kernel
theorem dX5_sorts_50 : decode cX5_sorts 50 = .ok (.aload_n 0, 1) := by decide +kernel
theorem dX5_sorts_51 : decode cX5_sorts 51 = .ok (.iload_n 2, 1) := by decide +kernel
theorem dX5_sorts_52 : decode cX5_sorts 52 = .ok (.invokevirtual 228, 3) := by decide +kernel
theorem dX5_sorts_55 : decode cX5_sorts 55 = .ok (.ifCond .ne 37, 3) := by decide +kernel
theorem dX5_sorts_58 : decode cX5_sorts 58 = .ok (.aload_n 0, 1) := by decide +kernel
theorem dX5_sorts_59 : decode cX5_sorts 59 = .ok (.getfield 51, 3) := by decide +kernel
theorem dX5_sorts_62 : decode cX5_sorts 62 = .ok (.iload_n 1, 1) := by decide +kernel
theorem dX5_sorts_63 : decode cX5_sorts 63 = .ok (.iload_n 2, 1) := by decide +kernel
theorem dX5_sorts_64 : decode cX5_sorts 64 = .ok (.invokestatic 104, 3) := by decide +kernel
theorem dX5_sorts_67 : decode cX5_sorts 67 = .ok (.iaload, 1) := by decide +kernel
theorem dX5_sorts_68 : decode cX5_sorts 68 = .ok (.aload_n 0, 1) := by decide +kernel
theorem dX5_sorts_69 : decode cX5_sorts 69 = .ok (.getfield 33, 3) := by decide +kernel
theorem dX5_sorts_72 : decode cX5_sorts 72 = .ok (.iload_n 2, 1) := by decide +kernel
theorem dX5_sorts_73 : decode cX5_sorts 73 = .ok (.iaload, 1) := by decide +kernel
theorem dX5_sorts_74 : decode cX5_sorts 74 = .ok (.if_icmp .ne 18, 3) := by decide +kernel
theorem dX5_sorts_77 : decode cX5_sorts 77 = .ok (.iload 4, 2) := by decide +kernel
theorem dX5_sorts_79 : decode cX5_sorts 79 = .ok (.ifCond .ne 22, 3) := by decide +kernel
theorem dX5_sorts_82 : decode cX5_sorts 82 = .ok (.aload_n 0, 1) := by decide +kernel
theorem dX5_sorts_83 : decode cX5_sorts 83 = .ok (.getfield 45, 3) := by decide +kernel
theorem dX5_sorts_86 : decode cX5_sorts 86 = .ok (.iload_n 2, 1) := by decide +kernel
theorem dX5_sorts_87 : decode cX5_sorts 87 = .ok (.iaload, 1) := by decide +kernel
theorem dX5_sorts_88 : decode cX5_sorts 88 = .ok (.iconst 2, 1) := by decide +kernel
theorem dX5_sorts_89 : decode cX5_sorts 89 = .ok (.if_icmp .le 12, 3) := by decide +kernel
theorem dX5_sorts_92 : decode cX5_sorts 92 = .ok (.aload_n 0, 1) := by decide +kernel
theorem dX5_sorts_93 : decode cX5_sorts 93 = .ok (.iload_n 1, 1) := by decide +kernel
theorem dX5_sorts_94 : decode cX5_sorts 94 = .ok (.iload_n 2, 1) := by decide +kernel
theorem dX5_sorts_95 : decode cX5_sorts 95 = .ok (.invokevirtual 213, 3) := by decide +kernel
theorem dX5_sorts_98 : decode cX5_sorts 98 = .ok (.goto 18, 3) := by decide +kernel
theorem dX5_sorts_101 : decode cX5_sorts 101 = .ok (.iload_n 3, 1) := by decide +kernel
theorem dX5_sorts_102 : decode cX5_sorts 102 = .ok (.ifCond .eq 14, 3) := by decide +kernel
theorem dX5_sorts_105 : decode cX5_sorts 105 = .ok (.iload 4, 2) := by decide +kernel
theorem dX5_sorts_107 : decode cX5_sorts 107 = .ok (.ifCond .ne 9, 3) := by decide +kernel
theorem dX5_sorts_110 : decode cX5_sorts 110 = .ok (.aload_n 0, 1) := by decide +kernel
theorem dX5_sorts_111 : decode cX5_sorts 111 = .ok (.iload_n 2, 1) := by decide +kernel
theorem dX5_sorts_112 : decode cX5_sorts 112 = .ok (.iload_n 1, 1) := by decide +kernel
theorem dX5_sorts_113 : decode cX5_sorts 113 = .ok (.invokevirtual 170, 3) := by decide +kernel
theorem dX5_sorts_116 : decode cX5_sorts 116 = .ok (.iinc 2 1, 3) := by decide +kernel
theorem dX5_sorts_119 : decode cX5_sorts 119 = .ok (.goto (-117), 3) := by decide +kernel
theorem dX5_sorts_122 : decode cX5_sorts 122 = .ok (.return_, 1) := by decide +kernel
theorem dX5_scrubs_0 : decode cX5_scrubs 0 = .ok (.iconst (-1), 1) := by decide +kernel
theorem dX5_scrubs_1 : decode cX5_scrubs 1 = .ok (.istore_n 2, 1) := by decide +kernel
theorem dX5_scrubs_2 : decode cX5_scrubs 2 = .ok (.iconst 0, 1) := by decide +kernel
theorem dX5_scrubs_3 : decode cX5_scrubs 3 = .ok (.istore_n 3, 1) := by decide +kernel
theorem dX5_scrubs_4 : decode cX5_scrubs 4 = .ok (.iload_n 3, 1) := by decide +kernel
theorem dX5_scrubs_5 : decode cX5_scrubs 5 = .ok (.iconst 2, 1) := by decide +kernel
theorem dX5_scrubs_6 : decode cX5_scrubs 6 = .ok (.aload_n 0, 1) := by decide +kernel
theorem dX5_scrubs_7 : decode cX5_scrubs 7 = .ok (.getfield 85, 3) := by decide +kernel
theorem dX5_scrubs_10 : decode cX5_scrubs 10 = .ok (.imul, 1) := by decide +kernel
theorem dX5_scrubs_11 : decode cX5_scrubs 11 = .ok (.if_icmp .ge 77, 3) := by decide +kernel
theorem dX5_scrubs_14 : decode cX5_scrubs 14 = .ok (.iload_n 2, 1) := by decide +kernel
theorem dX5_scrubs_15 : decode cX5_scrubs 15 = .ok (.iconst (-1), 1) := by decide +kernel
theorem dX5_scrubs_16 : decode cX5_scrubs 16 = .ok (.if_icmp .ne 72, 3) := by decide +kernel
theorem dX5_scrubs_19 : decode cX5_scrubs 19 = .ok (.iload_n 3, 1) := by decide +kernel
theorem dX5_scrubs_20 : decode cX5_scrubs 20 = .ok (.aload_n 0, 1) := by decide +kernel
theorem dX5_scrubs_21 : decode cX5_scrubs 21 = .ok (.getfield 85, 3) := by decide +kernel
theorem dX5_scrubs_24 : decode cX5_scrubs 24 = .ok (.if_icmp .ge 21, 3) := by decide +kernel
theorem dX5_scrubs_27 : decode cX5_scrubs 27 = .ok (.iload_n 3, 1) := by decide +kernel
theorem dX5_scrubs_28 : decode cX5_scrubs 28 = .ok (.aload_n 0, 1) := by decide +kernel
theorem dX5_scrubs_29 : decode cX5_scrubs 29 = .ok (.getfield 30, 3) := by decide +kernel
theorem dX5_scrubs_32 : decode cX5_scrubs 32 = .ok (.iload_n 1, 1) := by decide +kernel
theorem dX5_scrubs_33 : decode cX5_scrubs 33 = .ok (.iaload, 1) := by decide +kernel
theorem dX5_scrubs_34 : decode cX5_scrubs 34 = .ok (.if_icmp .le 7, 3) := by decide +kernel
theorem dX5_scrubs_37 : decode cX5_scrubs 37 = .ok (.iconst 1, 1) := by decide +kernel
theorem dX5_scrubs_38 : decode cX5_scrubs 38 = .ok (.goto 8, 3) := by decide +kernel
theorem dX5_scrubs_41 : decode cX5_scrubs 41 = .ok (.iconst 0, 1) := by decide +kernel
theorem dX5_scrubs_42 : decode cX5_scrubs 42 = .ok (.goto 4, 3) := by decide +kernel
theorem dX5_scrubs_45 : decode cX5_scrubs 45 = .ok (.iconst 1, 1) := by decide +kernel
theorem dX5_scrubs_46 : decode cX5_scrubs 46 = .ok (.istore 4, 2) := by decide +kernel
theorem dX5_scrubs_48 : decode cX5_scrubs 48 = .ok (.iload 4, 2) := by decide +kernel
theorem dX5_scrubs_50 : decode cX5_scrubs 50 = .ok (.ifCond .eq 30, 3) := by decide +kernel
theorem dX5_scrubs_53 : decode cX5_scrubs 53 = .ok (.aload_n 0, 1) := by decide +kernel
theorem dX5_scrubs_54 : decode cX5_scrubs 54 = .ok (.getfield 51, 3) := by decide +kernel
theorem dX5_scrubs_57 : decode cX5_scrubs 57 = .ok (.iload_n 1, 1) := by decide +kernel
theorem dX5_scrubs_58 : decode cX5_scrubs 58 = .ok (.iload_n 3, 1) := by decide +kernel
theorem dX5_scrubs_59 : decode cX5_scrubs 59 = .ok (.aload_n 0, 1) := by decide +kernel
theorem dX5_scrubs_60 : decode cX5_scrubs 60 = .ok (.getfield 85, 3) := by decide +kernel
theorem dX5_scrubs_63 : decode cX5_scrubs 63 = .ok (.irem, 1) := by decide +kernel
theorem dX5_scrubs_64 : decode cX5_scrubs 64 = .ok (.invokestatic 104, 3) := by decide +kernel
theorem dX5_scrubs_67 : decode cX5_scrubs 67 = .ok (.iaload, 1) := by decide +kernel
theorem dX5_scrubs_68 : decode cX5_scrubs 68 = .ok (.ifCond .le 12, 3) := by decide +kernel
theorem dX5_scrubs_71 : decode cX5_scrubs 71 = .ok (.iload_n 3, 1) := by decide +kernel
theorem dX5_scrubs_72 : decode cX5_scrubs 72 = .ok (.aload_n 0, 1) := by decide +kernel
theorem dX5_scrubs_73 : decode cX5_scrubs 73 = .ok (.getfield 85, 3) := by decide +kernel
theorem dX5_scrubs_76 : decode cX5_scrubs 76 = .ok (.irem, 1) := by decide +kernel
theorem dX5_scrubs_77 : decode cX5_scrubs 77 = .ok (.goto 4, 3) := by decide +kernel
theorem dX5_scrubs_80 : decode cX5_scrubs 80 = .ok (.iconst (-1), 1) := by decide +kernel
theorem dX5_scrubs_81 : decode cX5_scrubs 81 = .ok (.istore_n 2, 1) := by decide +kernel
theorem dX5_scrubs_82 : decode cX5_scrubs 82 = .ok (.iinc 3 1, 3) := by decide +kernel
theorem dX5_scrubs_85 : decode cX5_scrubs 85 = .ok (.goto (-81), 3) := by decide +kernel
theorem dX5_scrubs_88 : decode cX5_scrubs 88 = .ok (.iload_n 2, 1) := by decide +kernel
theorem dX5_scrubs_89 : decode cX5_scrubs 89 = .ok (.iconst (-1), 1) := by decide +kernel
theorem dX5_scrubs_90 : decode cX5_scrubs 90 = .ok (.if_icmp .eq 29, 3) := by decide +kernel
theorem dX5_scrubs_93 : decode cX5_scrubs 93 = .ok (.aload_n 0, 1) := by decide +kernel
theorem dX5_scrubs_94 : decode cX5_scrubs 94 = .ok (.getfield 30, 3) := by decide +kernel
theorem dX5_scrubs_97 : decode cX5_scrubs 97 = .ok (.iload_n 1, 1) := by decide +kernel
theorem dX5_scrubs_98 : decode cX5_scrubs 98 = .ok (.iload_n 2, 1) := by decide +kernel
theorem dX5_scrubs_99 : decode cX5_scrubs 99 = .ok (.iastore, 1) := by decide +kernel
theorem dX5_scrubs_100 : decode cX5_scrubs 100 = .ok (.aload_n 0, 1) := by decide +kernel
theorem dX5_scrubs_101 : decode cX5_scrubs 101 = .ok (.getfield 60, 3) := by decide +kernel
theorem dX5_scrubs_104 : decode cX5_scrubs 104 = .ok (.iload_n 1, 1) := by decide +kernel
theorem dX5_scrubs_105 : decode cX5_scrubs 105 = .ok (.iload_n 2, 1) := by decide +kernel
theorem dX5_scrubs_106 : decode cX5_scrubs 106 = .ok (.invokestatic 104, 3) := by decide +kernel
theorem dX5_scrubs_109 : decode cX5_scrubs 109 = .ok (.iaload, 1) := by decide +kernel
theorem dX5_scrubs_110 : decode cX5_scrubs 110 = .ok (.ifCond .le 9, 3) := by decide +kernel
theorem dX5_scrubs_113 : decode cX5_scrubs 113 = .ok (.aload_n 0, 1) := by decide +kernel
theorem dX5_scrubs_114 : decode cX5_scrubs 114 = .ok (.iload_n 1, 1) := by decide +kernel
theorem dX5_scrubs_115 : decode cX5_scrubs 115 = .ok (.iload_n 2, 1) := by decide +kernel
theorem dX5_scrubs_116 : decode cX5_scrubs 116 = .ok (.invokevirtual 213, 3) := by decide +kernel
theorem dX5_scrubs_119 : decode cX5_scrubs 119 = .ok (.return_, 1) := by decide +kernel
theorem dX5_mends_0 : decode cX5_mends 0 = .ok (.iconst 0, 1) := by decide +kernel
theorem dX5_mends_1 : decode cX5_mends 1 = .ok (.istore_n 1, 1) := by decide +kernel
theorem dX5_mends_2 : decode cX5_mends 2 = .ok (.iload_n 1, 1) := by decide +kernel
theorem dX5_mends_3 : decode cX5_mends 3 = .ok (.aload_n 0, 1) := by decide +kernel
theorem dX5_mends_4 : decode cX5_mends 4 = .ok (.getfield 85, 3) := by decide +kernel
theorem dX5_mends_7 : decode cX5_mends 7 = .ok (.if_icmp .ge 16, 3) := by decide +kernel
theorem dX5_mends_10 : decode cX5_mends 10 = .ok (.aload_n 0, 1) := by decide +kernel
theorem dX5_mends_11 : decode cX5_mends 11 = .ok (.getfield 42, 3) := by decide +kernel
theorem dX5_mends_14 : decode cX5_mends 14 = .ok (.iload_n 1, 1) := by decide +kernel
theorem dX5_mends_15 : decode cX5_mends 15 = .ok (.iconst 0, 1) := by decide +kernel
theorem dX5_mends_16 : decode cX5_mends 16 = .ok (.bastore, 1) := by decide +kernel
theorem dX5_mends_17 : decode cX5_mends 17 = .ok (.iinc 1 1, 3) := by decide +kernel
theorem dX5_mends_20 : decode cX5_mends 20 = .ok (.goto (-18), 3) := by decide +kernel
theorem dX5_mends_23 : decode cX5_mends 23 = .ok (.iconst 0, 1) := by decide +kernel
theorem dX5_mends_24 : decode cX5_mends 24 = .ok (.istore_n 1, 1) := by decide +kernel
theorem dX5_mends_25 : decode cX5_mends 25 = .ok (.iload_n 1, 1) := by decide +kernel
theorem dX5_mends_26 : decode cX5_mends 26 = .ok (.aload_n 0, 1) := by decide +kernel
theorem dX5_mends_27 : decode cX5_mends 27 = .ok (.getfield 7, 3) := by decide +kernel
theorem dX5_mends_30 : decode cX5_mends 30 = .ok (.if_icmp .ge 148, 3) := by decide +kernel
theorem dX5_mends_33 : decode cX5_mends 33 = .ok (.iconst (-1), 1) := by decide +kernel
theorem dX5_mends_34 : decode cX5_mends 34 = .ok (.istore_n 2, 1) := by decide +kernel
theorem dX5_mends_35 : decode cX5_mends 35 = .ok (.iconst 0, 1) := by decide +kernel
theorem dX5_mends_36 : decode cX5_mends 36 = .ok (.istore_n 3, 1) := by decide +kernel
theorem dX5_mends_37 : decode cX5_mends 37 = .ok (.iload_n 3, 1) := by decide +kernel
theorem dX5_mends_38 : decode cX5_mends 38 = .ok (.aload_n 0, 1) := by decide +kernel
theorem dX5_mends_39 : decode cX5_mends 39 = .ok (.getfield 85, 3) := by decide +kernel
theorem dX5_mends_42 : decode cX5_mends 42 = .ok (.if_icmp .ge 93, 3) := by decide +kernel
theorem dX5_mends_45 : decode cX5_mends 45 = .ok (.aload_n 0, 1) := by decide +kernel
theorem dX5_mends_46 : decode cX5_mends 46 = .ok (.getfield 45, 3) := by decide +kernel
theorem dX5_mends_49 : decode cX5_mends 49 = .ok (.iload_n 3, 1) := by decide +kernel
theorem dX5_mends_50 : decode cX5_mends 50 = .ok (.iaload, 1) := by decide +kernel
theorem dX5_mends_51 : decode cX5_mends 51 = .ok (.iconst 3, 1) := by decide +kernel
theorem dX5_mends_52 : decode cX5_mends 52 = .ok (.if_icmp .ge 43, 3) := by decide +kernel
theorem dX5_mends_55 : decode cX5_mends 55 = .ok (.aload_n 0, 1) := by decide +kernel
theorem dX5_mends_56 : decode cX5_mends 56 = .ok (.getfield 42, 3) := by decide +kernel
theorem dX5_mends_59 : decode cX5_mends 59 = .ok (.iload_n 3, 1) := by decide +kernel
theorem dX5_mends_60 : decode cX5_mends 60 = .ok (.baload, 1) := by decide +kernel
theorem dX5_mends_61 : decode cX5_mends 61 = .ok (.ifCond .ne 34, 3) := by decide +kernel
theorem dX5_mends_64 : decode cX5_mends 64 = .ok (.aload_n 0, 1) := by decide +kernel
theorem dX5_mends_65 : decode cX5_mends 65 = .ok (.iload_n 3, 1) := by decide +kernel
theorem dX5_mends_66 : decode cX5_mends 66 = .ok (.invokevirtual 228, 3) := by decide +kernel
theorem dX5_mends_69 : decode cX5_mends 69 = .ok (.ifCond .ne 26, 3) := by decide +kernel
theorem dX5_mends_72 : decode cX5_mends 72 = .ok (.aload_n 0, 1) := by decide +kernel
theorem dX5_mends_73 : decode cX5_mends 73 = .ok (.iload_n 3, 1) := by decide +kernel
theorem dX5_mends_74 : decode cX5_mends 74 = .ok (.iconst 1, 1) := by decide +kernel
theorem dX5_mends_75 : decode cX5_mends 75 = .ok (.invokevirtual 146, 3) := by decide +kernel
theorem dX5_mends_78 : decode cX5_mends 78 = .ok (.iconst (-1), 1) := by decide +kernel
theorem dX5_mends_79 : decode cX5_mends 79 = .ok (.if_icmp .eq 16, 3) := by decide +kernel
theorem dX5_mends_82 : decode cX5_mends 82 = .ok (.aload_n 0, 1) := by decide +kernel
theorem dX5_mends_83 : decode cX5_mends 83 = .ok (.iload_n 3, 1) := by decide +kernel
theorem dX5_mends_84 : decode cX5_mends 84 = .ok (.invokevirtual 182, 3) := by decide +kernel
theorem dX5_mends_87 : decode cX5_mends 87 = .ok (.iconst (-1), 1) := by decide +kernel
theorem dX5_mends_88 : decode cX5_mends 88 = .ok (.if_icmp .eq 7, 3) := by decide +kernel
theorem dX5_mends_91 : decode cX5_mends 91 = .ok (.iconst 1, 1) := by decide +kernel
theorem dX5_mends_92 : decode cX5_mends 92 = .ok (.goto 4, 3) := by decide +kernel
theorem dX5_mends_95 : decode cX5_mends 95 = .ok (.iconst 0, 1) := by decide +kernel
theorem dX5_mends_96 : decode cX5_mends 96 = .ok (.istore 4, 2) := by decide +kernel
theorem dX5_mends_98 : decode cX5_mends 98 = .ok (.iload 4, 2) := by decide +kernel
theorem dX5_mends_100 : decode cX5_mends 100 = .ok (.ifCond .eq 27, 3) := by decide +kernel
theorem dX5_mends_103 : decode cX5_mends 103 = .ok (.iload_n 2, 1) := by decide +kernel
theorem dX5_mends_104 : decode cX5_mends 104 = .ok (.iconst (-1), 1) := by decide +kernel
theorem dX5_mends_105 : decode cX5_mends 105 = .ok (.if_icmp .eq 18, 3) := by decide +kernel
theorem dX5_mends_108 : decode cX5_mends 108 = .ok (.aload_n 0, 1) := by decide +kernel
theorem dX5_mends_109 : decode cX5_mends 109 = .ok (.getfield 45, 3) := by decide +kernel
theorem dX5_mends_112 : decode cX5_mends 112 = .ok (.iload_n 3, 1) := by decide +kernel
theorem dX5_mends_113 : decode cX5_mends 113 = .ok (.iaload, 1) := by decide +kernel
theorem dX5_mends_114 : decode cX5_mends 114 = .ok (.aload_n 0, 1) := by decide +kernel
theorem dX5_mends_115 : decode cX5_mends 115 = .ok (.getfield 45, 3) := by decide +kernel
theorem dX5_mends_118 : decode cX5_mends 118 = .ok (.iload_n 2, 1) := by decide +kernel
theorem dX5_mends_119 : decode cX5_mends 119 = .ok (.iaload, 1) := by decide +kernel
theorem dX5_mends_120 : decode cX5_mends 120 = .ok (.if_icmp .ge 7, 3) := by decide +kernel
theorem dX5_mends_123 : decode cX5_mends 123 = .ok (.iload_n 3, 1) := by decide +kernel
theorem dX5_mends_124 : decode cX5_mends 124 = .ok (.goto 4, 3) := by decide +kernel
theorem dX5_mends_127 : decode cX5_mends 127 = .ok (.iload_n 2, 1) := by decide +kernel
theorem dX5_mends_128 : decode cX5_mends 128 = .ok (.istore_n 2, 1) := by decide +kernel
theorem dX5_mends_129 : decode cX5_mends 129 = .ok (.iinc 3 1, 3) := by decide +kernel
theorem dX5_mends_132 : decode cX5_mends 132 = .ok (.goto (-95), 3) := by decide +kernel
theorem dX5_mends_135 : decode cX5_mends 135 = .ok (.iload_n 2, 1) := by decide +kernel
theorem dX5_mends_136 : decode cX5_mends 136 = .ok (.iconst (-1), 1) := by decide +kernel
theorem dX5_mends_137 : decode cX5_mends 137 = .ok (.if_icmp .eq 35, 3) := by decide +kernel
theorem dX5_mends_140 : decode cX5_mends 140 = .ok (.aload_n 0, 1) := by decide +kernel
theorem dX5_mends_141 : decode cX5_mends 141 = .ok (.iload_n 2, 1) := by decide +kernel
theorem dX5_mends_142 : decode cX5_mends 142 = .ok (.invokevirtual 182, 3) := by decide +kernel
theorem dX5_mends_145 : decode cX5_mends 145 = .ok (.istore_n 3, 1) := by decide +kernel
theorem dX5_mends_146 : decode cX5_mends 146 = .ok (.aload_n 0, 1) := by decide +kernel
theorem dX5_mends_147 : decode cX5_mends 147 = .ok (.iload_n 3, 1) := by decide +kernel
theorem dX5_mends_148 : decode cX5_mends 148 = .ok (.iload_n 2, 1) := by decide +kernel
theorem dX5_mends_149 : decode cX5_mends 149 = .ok (.aload_n 0, 1) := by decide +kernel
theorem dX5_mends_150 : decode cX5_mends 150 = .ok (.iload_n 2, 1) := by decide +kernel
theorem dX5_mends_151 : decode cX5_mends 151 = .ok (.iconst 1, 1) := by decide +kernel
theorem dX5_mends_152 : decode cX5_mends 152 = .ok (.invokevirtual 146, 3) := by decide +kernel
theorem dX5_mends_155 : decode cX5_mends 155 = .ok (.iload_n 2, 1) := by decide +kernel
theorem dX5_mends_156 : decode cX5_mends 156 = .ok (.invokevirtual 166, 3) := by decide +kernel
theorem dX5_mends_159 : decode cX5_mends 159 = .ok (.aload_n 0, 1) := by decide +kernel
