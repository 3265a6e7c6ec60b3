theorem dX4_init_0 : decode cX4_init 0 = .ok (.aload_n 0, 1) := by decide +kernel
theorem dX4_init_1 : decode cX4_init 1 = .ok (.invokespecial 1, 3) := by decide +kernel
theorem dX4_init_4 : decode cX4_init 4 = .ok (.aload_n 0, 1) := by decide +kernel
theorem dX4_init_5 : decode cX4_init 5 = .ok (.new 7, 3) := by decide +kernel
theorem dX4_init_8 : decode cX4_init 8 = .ok (.dup, 1) := by decide +kernel
theorem dX4_init_9 : decode cX4_init 9 = .ok (.invokespecial 9, 3) := by decide +kernel
theorem dX4_init_12 : decode cX4_init 12 = .ok (.putfield 10, 3) := by decide +kernel
theorem dX4_init_15 : decode cX4_init 15 = .ok (.aload_n 0, 1) := by decide +kernel
theorem dX4_init_16 : decode cX4_init 16 = .ok (.new 7, 3) := by decide +kernel
theorem dX4_init_19 : decode cX4_init 19 = .ok (.dup, 1) := by decide +kernel
theorem dX4_init_20 : decode cX4_init 20 = .ok (.invokespecial 9, 3) := by decide +kernel
theorem dX4_init_23 : decode cX4_init 23 = .ok (.putfield 16, 3) := by decide +kernel
theorem dX4_init_26 : decode cX4_init 26 = .ok (.aload_n 0, 1) := by decide +kernel
theorem dX4_init_27 : decode cX4_init 27 = .ok (.new 7, 3) := by decide +kernel
theorem dX4_init_30 : decode cX4_init 30 = .ok (.dup, 1) := by decide +kernel
theorem dX4_init_31 : decode cX4_init 31 = .ok (.invokespecial 9, 3) := by decide +kernel
theorem dX4_init_34 : decode cX4_init 34 = .ok (.putfield 19, 3) := by decide +kernel
theorem dX4_init_37 : decode cX4_init 37 = .ok (.aload_n 0, 1) := by decide +kernel
theorem dX4_init_38 : decode cX4_init 38 = .ok (.iconst 0, 1) := by decide +kernel
theorem dX4_init_39 : decode cX4_init 39 = .ok (.putfield 22, 3) := by decide +kernel
theorem dX4_init_42 : decode cX4_init 42 = .ok (.aload_n 0, 1) := by decide +kernel
theorem dX4_init_43 : decode cX4_init 43 = .ok (.iconst 1, 1) := by decide +kernel
theorem dX4_init_44 : decode cX4_init 44 = .ok (.putfield 26, 3) := by decide +kernel
theorem dX4_init_47 : decode cX4_init 47 = .ok (.aload_n 0, 1) := by decide +kernel
theorem dX4_init_48 : decode cX4_init 48 = .ok (.iconst 0, 1) := by decide +kernel
theorem dX4_init_49 : decode cX4_init 49 = .ok (.putfield 29, 3) := by decide +kernel
theorem dX4_init_52 : decode cX4_init 52 = .ok (.return_, 1) := by decide +kernel
theorem dX4_node_0 : decode cX4_node 0 = .ok (.iload_n 1, 1) := by decide +kernel
theorem dX4_node_1 : decode cX4_node 1 = .ok (.invokestatic 33, 3) := by decide +kernel
theorem dX4_node_4 : decode cX4_node 4 = .ok (.iload_n 2, 1) := by decide +kernel
theorem dX4_node_5 : decode cX4_node 5 = .ok (.iconst 1, 1) := by decide +kernel
theorem dX4_node_6 : decode cX4_node 6 = .ok (.if_icmp .lt 9, 3) := by decide +kernel
theorem dX4_node_9 : decode cX4_node 9 = .ok (.iload_n 2, 1) := by decide +kernel
theorem dX4_node_10 : decode cX4_node 10 = .ok (.bipush 12, 2) := by decide +kernel
theorem dX4_node_12 : decode cX4_node 12 = .ok (.if_icmp .le 13, 3) := by decide +kernel
theorem dX4_node_15 : decode cX4_node 15 = .ok (.new 37, 3) := by decide +kernel
theorem dX4_node_18 : decode cX4_node 18 = .ok (.dup, 1) := by decide +kernel
theorem dX4_node_19 : decode cX4_node 19 = .ok (.ldc 39, 2) := by decide +kernel
theorem dX4_node_21 : decode cX4_node 21 = .ok (.invokespecial 41, 3) := by decide +kernel
theorem dX4_node_24 : decode cX4_node 24 = .ok (.athrow, 1) := by decide +kernel
theorem dX4_node_25 : decode cX4_node 25 = .ok (.aload_n 0, 1) := by decide +kernel
theorem dX4_node_26 : decode cX4_node 26 = .ok (.getfield 10, 3) := by decide +kernel
theorem dX4_node_29 : decode cX4_node 29 = .ok (.invokevirtual 44, 3) := by decide +kernel
theorem dX4_node_32 : decode cX4_node 32 = .ok (.bipush 8, 2) := by decide +kernel
theorem dX4_node_34 : decode cX4_node 34 = .ok (.if_icmp .lt 13, 3) := by decide +kernel
theorem dX4_node_37 : decode cX4_node 37 = .ok (.new 48, 3) := by decide +kernel
theorem dX4_node_40 : decode cX4_node 40 = .ok (.dup, 1) := by decide +kernel
theorem dX4_node_41 : decode cX4_node 41 = .ok (.ldc 50, 2) := by decide +kernel
theorem dX4_node_43 : decode cX4_node 43 = .ok (.invokespecial 52, 3) := by decide +kernel
theorem dX4_node_46 : decode cX4_node 46 = .ok (.athrow, 1) := by decide +kernel
theorem dX4_node_47 : decode cX4_node 47 = .ok (.new 53, 3) := by decide +kernel
theorem dX4_node_50 : decode cX4_node 50 = .ok (.dup, 1) := by decide +kernel
theorem dX4_node_51 : decode cX4_node 51 = .ok (.aload_n 0, 1) := by decide +kernel
theorem dX4_node_52 : decode cX4_node 52 = .ok (.getfield 10, 3) := by decide +kernel
theorem dX4_node_55 : decode cX4_node 55 = .ok (.invokevirtual 44, 3) := by decide +kernel
theorem dX4_node_58 : decode cX4_node 58 = .ok (.iload_n 1, 1) := by decide +kernel
theorem dX4_node_59 : decode cX4_node 59 = .ok (.iload_n 2, 1) := by decide +kernel
theorem dX4_node_60 : decode cX4_node 60 = .ok (.invokespecial 55, 3) := by decide +kernel
theorem dX4_node_63 : decode cX4_node 63 = .ok (.astore_n 3, 1) := by decide +kernel
theorem dX4_node_64 : decode cX4_node 64 = .ok (.aload_n 0, 1) := by decide +kernel
theorem dX4_node_65 : decode cX4_node 65 = .ok (.getfield 10, 3) := by decide +kernel
theorem dX4_node_68 : decode cX4_node 68 = .ok (.aload_n 3, 1) := by decide +kernel
theorem dX4_node_69 : decode cX4_node 69 = .ok (.invokevirtual 58, 3) := by decide +kernel
theorem dX4_node_72 : decode cX4_node 72 = .ok (.pop, 1) := by decide +kernel
theorem dX4_node_73 : decode cX4_node 73 = .ok (.aload_n 3, 1) := by decide +kernel
theorem dX4_node_74 : decode cX4_node 74 = .ok (.getfield 62, 3) := by decide +kernel
theorem dX4_node_77 : decode cX4_node 77 = .ok (.ireturn, 1) := by decide +kernel
theorem dX4_up_0 : decode cX4_up 0 = .ok (.aload_n 0, 1) := by decide +kernel
theorem dX4_up_1 : decode cX4_up 1 = .ok (.iload_n 1, 1) := by decide +kernel
theorem dX4_up_2 : decode cX4_up 2 = .ok (.invokevirtual 65, 3) := by decide +kernel
theorem dX4_up_5 : decode cX4_up 5 = .ok (.astore_n 3, 1) := by decide +kernel
theorem dX4_up_6 : decode cX4_up 6 = .ok (.aload_n 3, 1) := by decide +kernel
theorem dX4_up_7 : decode cX4_up 7 = .ok (.getfield 69, 3) := by decide +kernel
theorem dX4_up_10 : decode cX4_up 10 = .ok (.istore 4, 2) := by decide +kernel
theorem dX4_up_12 : decode cX4_up 12 = .ok (.iload 4, 2) := by decide +kernel
theorem dX4_up_14 : decode cX4_up 14 = .ok (.ifCond .eq 15, 3) := by decide +kernel
theorem dX4_up_17 : decode cX4_up 17 = .ok (.iload_n 2, 1) := by decide +kernel
theorem dX4_up_18 : decode cX4_up 18 = .ok (.ifCond .ne 11, 3) := by decide +kernel
theorem dX4_up_21 : decode cX4_up 21 = .ok (.aload_n 3, 1) := by decide +kernel
theorem dX4_up_22 : decode cX4_up 22 = .ok (.aload_n 0, 1) := by decide +kernel
theorem dX4_up_23 : decode cX4_up 23 = .ok (.getfield 22, 3) := by decide +kernel
theorem dX4_up_26 : decode cX4_up 26 = .ok (.putfield 72, 3) := by decide +kernel
theorem dX4_up_29 : decode cX4_up 29 = .ok (.aload_n 3, 1) := by decide +kernel
theorem dX4_up_30 : decode cX4_up 30 = .ok (.iload_n 2, 1) := by decide +kernel
theorem dX4_up_31 : decode cX4_up 31 = .ok (.putfield 69, 3) := by decide +kernel
theorem dX4_up_34 : decode cX4_up 34 = .ok (.iload 4, 2) := by decide +kernel
theorem dX4_up_36 : decode cX4_up 36 = .ok (.ireturn, 1) := by decide +kernel
theorem dX4_spoil_0 : decode cX4_spoil 0 = .ok (.aload_n 0, 1) := by decide +kernel
theorem dX4_spoil_1 : decode cX4_spoil 1 = .ok (.iload_n 1, 1) := by decide +kernel
theorem dX4_spoil_2 : decode cX4_spoil 2 = .ok (.invokevirtual 65, 3) := by decide +kernel
theorem dX4_spoil_5 : decode cX4_spoil 5 = .ok (.astore 4, 2) := by decide +kernel
theorem dX4_spoil_7 : decode cX4_spoil 7 = .ok (.aload_n 0, 1) := by decide +kernel
theorem dX4_spoil_8 : decode cX4_spoil 8 = .ok (.iload_n 2, 1) := by decide +kernel
theorem dX4_spoil_9 : decode cX4_spoil 9 = .ok (.invokevirtual 75, 3) := by decide +kernel
theorem dX4_spoil_12 : decode cX4_spoil 12 = .ok (.astore 5, 2) := by decide +kernel
theorem dX4_spoil_14 : decode cX4_spoil 14 = .ok (.iload_n 3, 1) := by decide +kernel
theorem dX4_spoil_15 : decode cX4_spoil 15 = .ok (.invokestatic 79, 3) := by decide +kernel
theorem dX4_spoil_18 : decode cX4_spoil 18 = .ok (.aload 4, 2) := by decide +kernel
theorem dX4_spoil_20 : decode cX4_spoil 20 = .ok (.aload 5, 2) := by decide +kernel
theorem dX4_spoil_22 : decode cX4_spoil 22 = .ok (.invokevirtual 82, 3) := by decide +kernel
theorem dX4_spoil_25 : decode cX4_spoil 25 = .ok (.astore 6, 2) := by decide +kernel
theorem dX4_spoil_27 : decode cX4_spoil 27 = .ok (.aload 6, 2) := by decide +kernel
theorem dX4_spoil_29 : decode cX4_spoil 29 = .ok (.ifnull 12, 3) := by decide +kernel
theorem dX4_spoil_32 : decode cX4_spoil 32 = .ok (.aload 6, 2) := by decide +kernel
theorem dX4_spoil_34 : decode cX4_spoil 34 = .ok (.iload_n 3, 1) := by decide +kernel
theorem dX4_spoil_35 : decode cX4_spoil 35 = .ok (.invokevirtual 86, 3) := by decide +kernel
theorem dX4_spoil_38 : decode cX4_spoil 38 = .ok (.ifCond .ne 13, 3) := by decide +kernel
theorem dX4_spoil_41 : decode cX4_spoil 41 = .ok (.new 48, 3) := by decide +kernel
theorem dX4_spoil_44 : decode cX4_spoil 44 = .ok (.dup, 1) := by decide +kernel
theorem dX4_spoil_45 : decode cX4_spoil 45 = .ok (.ldc 92, 2) := by decide +kernel
theorem dX4_spoil_47 : decode cX4_spoil 47 = .ok (.invokespecial 52, 3) := by decide +kernel
theorem dX4_spoil_50 : decode cX4_spoil 50 = .ok (.athrow, 1) := by decide +kernel
theorem dX4_spoil_51 : decode cX4_spoil 51 = .ok (.aload 6, 2) := by decide +kernel
theorem dX4_spoil_53 : decode cX4_spoil 53 = .ok (.iload_n 3, 1) := by decide +kernel
theorem dX4_spoil_54 : decode cX4_spoil 54 = .ok (.invokevirtual 94, 3) := by decide +kernel
theorem dX4_spoil_57 : decode cX4_spoil 57 = .ok (.istore 7, 2) := by decide +kernel
theorem dX4_spoil_59 : decode cX4_spoil 59 = .ok (.aload 6, 2) := by decide +kernel
theorem dX4_spoil_61 : decode cX4_spoil 61 = .ok (.iload_n 3, 1) := by decide +kernel
theorem dX4_spoil_62 : decode cX4_spoil 62 = .ok (.invokevirtual 97, 3) := by decide +kernel
theorem dX4_spoil_65 : decode cX4_spoil 65 = .ok (.iload 7, 2) := by decide +kernel
theorem dX4_spoil_67 : decode cX4_spoil 67 = .ok (.ireturn, 1) := by decide +kernel
theorem dX4_limit_0 : decode cX4_limit 0 = .ok (.iload_n 1, 1) := by decide +kernel
theorem dX4_limit_1 : decode cX4_limit 1 = .ok (.ifCond .lt 8, 3) := by decide +kernel
theorem dX4_limit_4 : decode cX4_limit 4 = .ok (.iload_n 1, 1) := by decide +kernel
theorem dX4_limit_5 : decode cX4_limit 5 = .ok (.iconst 3, 1) := by decide +kernel
theorem dX4_limit_6 : decode cX4_limit 6 = .ok (.if_icmp .le 13, 3) := by decide +kernel
theorem dX4_limit_9 : decode cX4_limit 9 = .ok (.new 37, 3) := by decide +kernel
theorem dX4_limit_12 : decode cX4_limit 12 = .ok (.dup, 1) := by decide +kernel
theorem dX4_limit_13 : decode cX4_limit 13 = .ok (.ldc 100, 2) := by decide +kernel
theorem dX4_limit_15 : decode cX4_limit 15 = .ok (.invokespecial 41, 3) := by decide +kernel
theorem dX4_limit_18 : decode cX4_limit 18 = .ok (.athrow, 1) := by decide +kernel
theorem dX4_limit_19 : decode cX4_limit 19 = .ok (.aload_n 0, 1) := by decide +kernel
theorem dX4_limit_20 : decode cX4_limit 20 = .ok (.getfield 26, 3) := by decide +kernel
theorem dX4_limit_23 : decode cX4_limit 23 = .ok (.istore_n 2, 1) := by decide +kernel
theorem dX4_limit_24 : decode cX4_limit 24 = .ok (.aload_n 0, 1) := by decide +kernel
theorem dX4_limit_25 : decode cX4_limit 25 = .ok (.iload_n 1, 1) := by decide +kernel
theorem dX4_limit_26 : decode cX4_limit 26 = .ok (.putfield 26, 3) := by decide +kernel
theorem dX4_limit_29 : decode cX4_limit 29 = .ok (.iload_n 2, 1) := by decide +kernel
theorem dX4_limit_30 : decode cX4_limit 30 = .ok (.ireturn, 1) := by decide +kernel
theorem dX4_balance_0 : decode cX4_balance 0 = .ok (.aload_n 0, 1) := by decide +kernel
theorem dX4_balance_1 : decode cX4_balance 1 = .ok (.getfield 29, 3) := by decide +kernel
theorem dX4_balance_4 : decode cX4_balance 4 = .ok (.istore_n 2, 1) := by decide +kernel
theorem dX4_balance_5 : decode cX4_balance 5 = .ok (.aload_n 0, 1) := by decide +kernel
theorem dX4_balance_6 : decode cX4_balance 6 = .ok (.iload_n 1, 1) := by decide +kernel
theorem dX4_balance_7 : decode cX4_balance 7 = .ok (.putfield 29, 3) := by decide +kernel
theorem dX4_balance_10 : decode cX4_balance 10 = .ok (.iload_n 2, 1) := by decide +kernel
theorem dX4_balance_11 : decode cX4_balance 11 = .ok (.ireturn, 1) := by decide +kernel
theorem dX4_pass_0 : decode cX4_pass 0 = .ok (.iload_n 1, 1) := by decide +kernel
theorem dX4_pass_1 : decode cX4_pass 1 = .ok (.iconst 1, 1) := by decide +kernel
theorem dX4_pass_2 : decode cX4_pass 2 = .ok (.if_icmp .lt 9, 3) := by decide +kernel
theorem dX4_pass_5 : decode cX4_pass 5 = .ok (.iload_n 1, 1) := by decide +kernel
theorem dX4_pass_6 : decode cX4_pass 6 = .ok (.bipush 100, 2) := by decide +kernel
theorem dX4_pass_8 : decode cX4_pass 8 = .ok (.if_icmp .le 13, 3) := by decide +kernel
theorem dX4_pass_11 : decode cX4_pass 11 = .ok (.new 37, 3) := by decide +kernel
theorem dX4_pass_14 : decode cX4_pass 14 = .ok (.dup, 1) := by decide +kernel
theorem dX4_pass_15 : decode cX4_pass 15 = .ok (.ldc 102, 2) := by decide +kernel
theorem dX4_pass_17 : decode cX4_pass 17 = .ok (.invokespecial 41, 3) := by decide +kernel
theorem dX4_pass_20 : decode cX4_pass 20 = .ok (.athrow, 1) := by decide +kernel
theorem dX4_pass_21 : decode cX4_pass 21 = .ok (.aload_n 0, 1) := by decide +kernel
theorem dX4_pass_22 : decode cX4_pass 22 = .ok (.getfield 22, 3) := by decide +kernel
theorem dX4_pass_25 : decode cX4_pass 25 = .ok (.iload_n 1, 1) := by decide +kernel
theorem dX4_pass_26 : decode cX4_pass 26 = .ok (.iadd, 1) := by decide +kernel
theorem dX4_pass_27 : decode cX4_pass 27 = .ok (.sipush 3000, 3) := by decide +kernel
theorem dX4_pass_30 : decode cX4_pass 30 = .ok (.if_icmp .le 13, 3) := by decide +kernel
theorem dX4_pass_33 : decode cX4_pass 33 = .ok (.new 48, 3) := by decide +kernel
theorem dX4_pass_36 : decode cX4_pass 36 = .ok (.dup, 1) := by decide +kernel
theorem dX4_pass_37 : decode cX4_pass 37 = .ok (.ldc 104, 2) := by decide +kernel
theorem dX4_pass_39 : decode cX4_pass 39 = .ok (.invokespecial 52, 3) := by decide +kernel
theorem dX4_pass_42 : decode cX4_pass 42 = .ok (.athrow, 1) := by decide +kernel
theorem dX4_pass_43 : decode cX4_pass 43 = .ok (.iconst 0, 1) := by decide +kernel
theorem dX4_pass_44 : decode cX4_pass 44 = .ok (.istore_n 2, 1) := by decide +kernel
theorem dX4_pass_45 : decode cX4_pass 45 = .ok (.iload_n 2, 1) := by decide +kernel
theorem dX4_pass_46 : decode cX4_pass 46 = .ok (.iload_n 1, 1) := by decide +kernel
theorem dX4_pass_47 : decode cX4_pass 47 = .ok (.if_icmp .ge 13, 3) := by decide +kernel
theorem dX4_pass_50 : decode cX4_pass 50 = .ok (.aload_n 0, 1) := by decide +kernel
theorem dX4_pass_51 : decode cX4_pass 51 = .ok (.invokevirtual 106, 3) := by decide +kernel
theorem dX4_pass_54 : decode cX4_pass 54 = .ok (.iinc 2 1, 3) := by decide +kernel
theorem dX4_pass_57 : decode cX4_pass 57 = .ok (.goto (-12), 3) := by decide +kernel
theorem dX4_pass_60 : decode cX4_pass 60 = .ok (.aload_n 0, 1) := by decide +kernel
theorem dX4_pass_61 : decode cX4_pass 61 = .ok (.getfield 22, 3) := by decide +kernel
theorem dX4_pass_64 : decode cX4_pass 64 = .ok (.ireturn, 1) := by decide +kernel
theorem dX4_file_0 : decode cX4_file 0 = .ok (.aload_n 0, 1) := by decide +kernel
theorem dX4_file_1 : decode cX4_file 1 = .ok (.invokevirtual 109, 3) := by decide +kernel
theorem dX4_file_4 : decode cX4_file 4 = .ok (.getfield 113, 3) := by decide +kernel
theorem dX4_file_7 : decode cX4_file 7 = .ok (.ireturn, 1) := by decide +kernel
theorem dX4_snapshot_0 : decode cX4_snapshot 0 = .ok (.aload_n 0, 1) := by decide +kernel
theorem dX4_snapshot_1 : decode cX4_snapshot 1 = .ok (.iload_n 1, 1) := by decide +kernel
theorem dX4_snapshot_2 : decode cX4_snapshot 2 = .ok (.invokevirtual 116, 3) := by decide +kernel
theorem dX4_snapshot_5 : decode cX4_snapshot 5 = .ok (.astore_n 2, 1) := by decide +kernel
theorem dX4_snapshot_6 : decode cX4_snapshot 6 = .ok (.aload_n 2, 1) := by decide +kernel
theorem dX4_snapshot_7 : decode cX4_snapshot 7 = .ok (.invokestatic 120, 3) := by decide +kernel
theorem dX4_snapshot_10 : decode cX4_snapshot 10 = .ok (.aload_n 0, 1) := by decide +kernel
theorem dX4_snapshot_11 : decode cX4_snapshot 11 = .ok (.invokevirtual 109, 3) := by decide +kernel
theorem dX4_snapshot_14 : decode cX4_snapshot 14 = .ok (.astore_n 3, 1) := by decide +kernel
theorem dX4_snapshot_15 : decode cX4_snapshot 15 = .ok (.iconst 0, 1) := by decide +kernel
theorem dX4_snapshot_16 : decode cX4_snapshot 16 = .ok (.istore 4, 2) := by decide +kernel
theorem dX4_snapshot_18 : decode cX4_snapshot 18 = .ok (.iload 4, 2) := by decide +kernel
theorem dX4_snapshot_20 : decode cX4_snapshot 20 = .ok (.aload_n 2, 1) := by decide +kernel
theorem dX4_snapshot_21 : decode cX4_snapshot 21 = .ok (.getfield 124, 3) := by decide +kernel
theorem dX4_snapshot_24 : decode cX4_snapshot 24 = .ok (.invokevirtual 44, 3) := by decide +kernel
theorem dX4_snapshot_27 : decode cX4_snapshot 27 = .ok (.if_icmp .ge 44, 3) := by decide +kernel
theorem dX4_snapshot_30 : decode cX4_snapshot 30 = .ok (.aload_n 2, 1) := by decide +kernel
theorem dX4_snapshot_31 : decode cX4_snapshot 31 = .ok (.getfield 124, 3) := by decide +kernel
theorem dX4_snapshot_34 : decode cX4_snapshot 34 = .ok (.iload 4, 2) := by decide +kernel
theorem dX4_snapshot_36 : decode cX4_snapshot 36 = .ok (.invokevirtual 127, 3) := by decide +kernel
theorem dX4_snapshot_39 : decode cX4_snapshot 39 = .ok (.checkcast 131, 3) := by decide +kernel
theorem dX4_snapshot_42 : decode cX4_snapshot 42 = .ok (.astore 5, 2) := by decide +kernel
theorem dX4_snapshot_44 : decode cX4_snapshot 44 = .ok (.aload 5, 2) := by decide +kernel
theorem dX4_snapshot_46 : decode cX4_snapshot 46 = .ok (.dup, 1) := by decide +kernel
theorem dX4_snapshot_47 : decode cX4_snapshot 47 = .ok (.getfield 133, 3) := by decide +kernel
theorem dX4_snapshot_50 : decode cX4_snapshot 50 = .ok (.iconst 1, 1) := by decide +kernel
theorem dX4_snapshot_51 : decode cX4_snapshot 51 = .ok (.iadd, 1) := by decide +kernel
theorem dX4_snapshot_52 : decode cX4_snapshot 52 = .ok (.putfield 133, 3) := by decide +kernel
theorem dX4_snapshot_55 : decode cX4_snapshot 55 = .ok (.aload_n 3, 1) := by decide +kernel
theorem dX4_snapshot_56 : decode cX4_snapshot 56 = .ok (.getfield 124, 3) := by decide +kernel
theorem dX4_snapshot_59 : decode cX4_snapshot 59 = .ok (.aload 5, 2) := by decide +kernel
theorem dX4_snapshot_61 : decode cX4_snapshot 61 = .ok (.invokevirtual 58, 3) := by decide +kernel
theorem dX4_snapshot_64 : decode cX4_snapshot 64 = .ok (.pop, 1) := by decide +kernel
theorem dX4_snapshot_65 : decode cX4_snapshot 65 = .ok (.iinc 4 1, 3) := by decide +kernel
theorem dX4_snapshot_68 : decode cX4_snapshot 68 = .ok (.goto (-50), 3) := by decide +kernel
theorem dX4_snapshot_71 : decode cX4_snapshot 71 = .ok (.aload_n 3, 1) := by decide +kernel
theorem dX4_snapshot_72 : decode cX4_snapshot 72 = .ok (.getfield 113, 3) := by decide +kernel
theorem dX4_snapshot_75 : decode cX4_snapshot 75 = .ok (.ireturn, 1) := by decide +kernel
theorem dX4_remove_0 : decode cX4_remove 0 = .ok (.aload_n 0, 1) := by decide +kernel
theorem dX4_remove_1 : decode cX4_remove 1 = .ok (.iload_n 1, 1) := by decide +kernel
theorem dX4_remove_2 : decode cX4_remove 2 = .ok (.invokevirtual 116, 3) := by decide +kernel
theorem dX4_remove_5 : decode cX4_remove 5 = .ok (.astore_n 2, 1) := by decide +kernel
theorem dX4_remove_6 : decode cX4_remove 6 = .ok (.aload_n 2, 1) := by decide +kernel
theorem dX4_remove_7 : decode cX4_remove 7 = .ok (.invokestatic 120, 3) := by decide +kernel
theorem dX4_remove_10 : decode cX4_remove 10 = .ok (.aload_n 2, 1) := by decide +kernel
theorem dX4_remove_11 : decode cX4_remove 11 = .ok (.iconst 1, 1) := by decide +kernel
theorem dX4_remove_12 : decode cX4_remove 12 = .ok (.putfield 136, 3) := by decide +kernel
theorem dX4_remove_15 : decode cX4_remove 15 = .ok (.aload_n 2, 1) := by decide +kernel
theorem dX4_remove_16 : decode cX4_remove 16 = .ok (.aload_n 0, 1) := by decide +kernel
theorem dX4_remove_17 : decode cX4_remove 17 = .ok (.getfield 22, 3) := by decide +kernel
theorem dX4_remove_20 : decode cX4_remove 20 = .ok (.putfield 139, 3) := by decide +kernel
theorem dX4_remove_23 : decode cX4_remove 23 = .ok (.return_, 1) := by decide +kernel
theorem dX4_restore_0 : decode cX4_restore 0 = .ok (.aload_n 0, 1) := by decide +kernel
theorem dX4_restore_1 : decode cX4_restore 1 = .ok (.iload_n 1, 1) := by decide +kernel
theorem dX4_restore_2 : decode cX4_restore 2 = .ok (.invokevirtual 116, 3) := by decide +kernel
theorem dX4_restore_5 : decode cX4_restore 5 = .ok (.astore_n 2, 1) := by decide +kernel
theorem dX4_restore_6 : decode cX4_restore 6 = .ok (.aload_n 2, 1) := by decide +kernel
theorem dX4_restore_7 : decode cX4_restore 7 = .ok (.getfield 136, 3) := by decide +kernel
theorem dX4_restore_10 : decode cX4_restore 10 = .ok (.iconst 1, 1) := by decide +kernel
theorem dX4_restore_11 : decode cX4_restore 11 = .ok (.if_icmp .eq 13, 3) := by decide +kernel
theorem dX4_restore_14 : decode cX4_restore 14 = .ok (.new 48, 3) := by decide +kernel
theorem dX4_restore_17 : decode cX4_restore 17 = .ok (.dup, 1) := by decide +kernel
theorem dX4_restore_18 : decode cX4_restore 18 = .ok (.ldc 142, 2) := by decide +kernel
theorem dX4_restore_20 : decode cX4_restore 20 = .ok (.invokespecial 52, 3) := by decide +kernel
theorem dX4_restore_23 : decode cX4_restore 23 = .ok (.athrow, 1) := by decide +kernel
theorem dX4_restore_24 : decode cX4_restore 24 = .ok (.aload_n 2, 1) := by decide +kernel
theorem dX4_restore_25 : decode cX4_restore 25 = .ok (.iconst 0, 1) := by decide +kernel
theorem dX4_restore_26 : decode cX4_restore 26 = .ok (.putfield 136, 3) := by decide +kernel
theorem dX4_restore_29 : decode cX4_restore 29 = .ok (.return_, 1) := by decide +kernel
theorem dX4_append_0 : decode cX4_append 0 = .ok (.aload_n 0, 1) := by decide +kernel
theorem dX4_append_1 : decode cX4_append 1 = .ok (.iload_n 1, 1) := by decide +kernel
theorem dX4_append_2 : decode cX4_append 2 = .ok (.invokevirtual 116, 3) := by decide +kernel
theorem dX4_append_5 : decode cX4_append 5 = .ok (.astore_n 3, 1) := by decide +kernel
theorem dX4_append_6 : decode cX4_append 6 = .ok (.iload_n 2, 1) := by decide +kernel
theorem dX4_append_7 : decode cX4_append 7 = .ok (.invokestatic 144, 3) := by decide +kernel
theorem dX4_append_10 : decode cX4_append 10 = .ok (.aload_n 3, 1) := by decide +kernel
theorem dX4_append_11 : decode cX4_append 11 = .ok (.invokestatic 120, 3) := by decide +kernel
theorem dX4_append_14 : decode cX4_append 14 = .ok (.aload_n 0, 1) := by decide +kernel
theorem dX4_append_15 : decode cX4_append 15 = .ok (.aload_n 3, 1) := by decide +kernel
theorem dX4_append_16 : decode cX4_append 16 = .ok (.invokevirtual 147, 3) := by decide +kernel
theorem dX4_append_19 : decode cX4_append 19 = .ok (.istore 4, 2) := by decide +kernel
theorem dX4_append_21 : decode cX4_append 21 = .ok (.iload 4, 2) := by decide +kernel
theorem dX4_append_23 : decode cX4_append 23 = .ok (.iconst 4, 1) := by decide +kernel
theorem dX4_append_24 : decode cX4_append 24 = .ok (.if_icmp .lt 11, 3) := by decide +kernel
theorem dX4_append_27 : decode cX4_append 27 = .ok (.aload_n 0, 1) := by decide +kernel
theorem dX4_append_28 : decode cX4_append 28 = .ok (.aload_n 3, 1) := by decide +kernel
theorem dX4_append_29 : decode cX4_append 29 = .ok (.invokevirtual 151, 3) := by decide +kernel
theorem dX4_append_32 : decode cX4_append 32 = .ok (.iconst 0, 1) := by decide +kernel
theorem dX4_append_33 : decode cX4_append 33 = .ok (.istore 4, 2) := by decide +kernel
theorem dX4_append_35 : decode cX4_append 35 = .ok (.aload_n 3, 1) := by decide +kernel
theorem dX4_append_36 : decode cX4_append 36 = .ok (.getfield 124, 3) := by decide +kernel
theorem dX4_append_39 : decode cX4_append 39 = .ok (.invokevirtual 44, 3) := by decide +kernel
theorem dX4_append_42 : decode cX4_append 42 = .ok (.iconst 1, 1) := by decide +kernel
theorem dX4_append_43 : decode cX4_append 43 = .ok (.isub, 1) := by decide +kernel
theorem dX4_append_44 : decode cX4_append 44 = .ok (.istore 5, 2) := by decide +kernel
theorem dX4_append_46 : decode cX4_append 46 = .ok (.aload_n 0, 1) := by decide +kernel
theorem dX4_append_47 : decode cX4_append 47 = .ok (.aload_n 3, 1) := by decide +kernel
theorem dX4_append_48 : decode cX4_append 48 = .ok (.iload 5, 2) := by decide +kernel
theorem dX4_append_50 : decode cX4_append 50 = .ok (.iload 4, 2) := by decide +kernel
theorem dX4_append_52 : decode cX4_append 52 = .ok (.iload_n 2, 1) := by decide +kernel
theorem dX4_append_53 : decode cX4_append 53 = .ok (.invokevirtual 154, 3) := by decide +kernel
theorem dX4_append_56 : decode cX4_append 56 = .ok (.istore 6, 2) := by decide +kernel
theorem dX4_append_58 : decode cX4_append 58 = .ok (.iload 6, 2) := by decide +kernel
theorem dX4_append_60 : decode cX4_append 60 = .ok (.ifCond .eq 14, 3) := by decide +kernel
theorem dX4_append_63 : decode cX4_append 63 = .ok (.bipush 10, 2) := by decide +kernel
theorem dX4_append_65 : decode cX4_append 65 = .ok (.iload 5, 2) := by decide +kernel
theorem dX4_append_67 : decode cX4_append 67 = .ok (.imul, 1) := by decide +kernel
theorem dX4_append_68 : decode cX4_append 68 = .ok (.iload 4, 2) := by decide +kernel
theorem dX4_append_70 : decode cX4_append 70 = .ok (.iadd, 1) := by decide +kernel
theorem dX4_append_71 : decode cX4_append 71 = .ok (.goto 4, 3) := by decide +kernel
theorem dX4_append_74 : decode cX4_append 74 = .ok (.iconst (-1), 1) := by decide +kernel
theorem dX4_append_75 : decode cX4_append 75 = .ok (.ireturn, 1) := by decide +kernel
theorem dX4_put_0 : decode cX4_put 0 = .ok (.aload_n 0, 1) := by decide +kernel
theorem dX4_put_1 : decode cX4_put 1 = .ok (.iload_n 1, 1) := by decide +kernel
theorem dX4_put_2 : decode cX4_put 2 = .ok (.invokevirtual 116, 3) := by decide +kernel
theorem dX4_put_5 : decode cX4_put 5 = .ok (.astore 5, 2) := by decide +kernel
theorem dX4_put_7 : decode cX4_put 7 = .ok (.aload 5, 2) := by decide +kernel
theorem dX4_put_9 : decode cX4_put 9 = .ok (.iload_n 2, 1) := by decide +kernel
theorem dX4_put_10 : decode cX4_put 10 = .ok (.invokestatic 158, 3) := by decide +kernel
theorem dX4_put_13 : decode cX4_put 13 = .ok (.astore 6, 2) := by decide +kernel
theorem dX4_put_15 : decode cX4_put 15 = .ok (.iload_n 3, 1) := by decide +kernel
theorem dX4_put_16 : decode cX4_put 16 = .ok (.invokestatic 79, 3) := by decide +kernel
theorem dX4_put_19 : decode cX4_put 19 = .ok (.iload 4, 2) := by decide +kernel
theorem dX4_put_21 : decode cX4_put 21 = .ok (.invokestatic 144, 3) := by decide +kernel
theorem dX4_put_24 : decode cX4_put 24 = .ok (.aload 5, 2) := by decide +kernel
theorem dX4_put_26 : decode cX4_put 26 = .ok (.invokestatic 120, 3) := by decide +kernel
theorem dX4_put_29 : decode cX4_put 29 = .ok (.iload_n 3, 1) := by decide +kernel
theorem dX4_put_30 : decode cX4_put 30 = .ok (.aload_n 0, 1) := by decide +kernel
theorem dX4_put_31 : decode cX4_put 31 = .ok (.aload 6, 2) := by decide +kernel
theorem dX4_put_33 : decode cX4_put 33 = .ok (.invokevirtual 162, 3) := by decide +kernel
theorem dX4_put_36 : decode cX4_put 36 = .ok (.if_icmp .lt 13, 3) := by decide +kernel
theorem dX4_put_39 : decode cX4_put 39 = .ok (.new 48, 3) := by decide +kernel
theorem dX4_put_42 : decode cX4_put 42 = .ok (.dup, 1) := by decide +kernel
theorem dX4_put_43 : decode cX4_put 43 = .ok (.ldc 166, 2) := by decide +kernel
theorem dX4_put_45 : decode cX4_put 45 = .ok (.invokespecial 52, 3) := by decide +kernel
theorem dX4_put_48 : decode cX4_put 48 = .ok (.athrow, 1) := by decide +kernel
theorem dX4_put_49 : decode cX4_put 49 = .ok (.aload_n 0, 1) := by decide +kernel
theorem dX4_put_50 : decode cX4_put 50 = .ok (.aload 5, 2) := by decide +kernel
theorem dX4_put_52 : decode cX4_put 52 = .ok (.iload_n 2, 1) := by decide +kernel
theorem dX4_put_53 : decode cX4_put 53 = .ok (.iload_n 3, 1) := by decide +kernel
theorem dX4_put_54 : decode cX4_put 54 = .ok (.iload 4, 2) := by decide +kernel
theorem dX4_put_56 : decode cX4_put 56 = .ok (.invokevirtual 154, 3) := by decide +kernel
theorem dX4_put_59 : decode cX4_put 59 = .ok (.ireturn, 1) := by decide +kernel
theorem dX4_read_0 : decode cX4_read 0 = .ok (.aload_n 0, 1) := by decide +kernel
theorem dX4_read_1 : decode cX4_read 1 = .ok (.iload_n 1, 1) := by decide +kernel
theorem dX4_read_2 : decode cX4_read 2 = .ok (.invokevirtual 116, 3) := by decide +kernel
theorem dX4_read_5 : decode cX4_read 5 = .ok (.astore 5, 2) := by decide +kernel
theorem dX4_read_7 : decode cX4_read 7 = .ok (.aload 5, 2) := by decide +kernel
theorem dX4_read_9 : decode cX4_read 9 = .ok (.iload_n 2, 1) := by decide +kernel
theorem dX4_read_10 : decode cX4_read 10 = .ok (.invokestatic 158, 3) := by decide +kernel
theorem dX4_read_13 : decode cX4_read 13 = .ok (.astore 6, 2) := by decide +kernel
theorem dX4_read_15 : decode cX4_read 15 = .ok (.iload_n 3, 1) := by decide +kernel
theorem dX4_read_16 : decode cX4_read 16 = .ok (.invokestatic 79, 3) := by decide +kernel
theorem dX4_read_19 : decode cX4_read 19 = .ok (.iload 4, 2) := by decide +kernel
theorem dX4_read_21 : decode cX4_read 21 = .ok (.invokestatic 33, 3) := by decide +kernel
theorem dX4_read_24 : decode cX4_read 24 = .ok (.aload 5, 2) := by decide +kernel
theorem dX4_read_26 : decode cX4_read 26 = .ok (.invokestatic 120, 3) := by decide +kernel
theorem dX4_read_29 : decode cX4_read 29 = .ok (.iconst 0, 1) := by decide +kernel
theorem dX4_read_30 : decode cX4_read 30 = .ok (.istore 7, 2) := by decide +kernel
theorem dX4_read_32 : decode cX4_read 32 = .ok (.iload 7, 2) := by decide +kernel
theorem dX4_read_34 : decode cX4_read 34 = .ok (.bipush 8, 2) := by decide +kernel
theorem dX4_read_36 : decode cX4_read 36 = .ok (.if_icmp .gt 67, 3) := by decide +kernel
theorem dX4_read_39 : decode cX4_read 39 = .ok (.aload 6, 2) := by decide +kernel
theorem dX4_read_41 : decode cX4_read 41 = .ok (.iload 4, 2) := by decide +kernel
theorem dX4_read_43 : decode cX4_read 43 = .ok (.invokestatic 168, 3) := by decide +kernel
theorem dX4_read_46 : decode cX4_read 46 = .ok (.astore 8, 2) := by decide +kernel
theorem dX4_read_48 : decode cX4_read 48 = .ok (.aload 8, 2) := by decide +kernel
theorem dX4_read_50 : decode cX4_read 50 = .ok (.ifnonnull 7, 3) := by decide +kernel
theorem dX4_read_53 : decode cX4_read 53 = .ok (.aconst_null, 1) := by decide +kernel
theorem dX4_read_54 : decode cX4_read 54 = .ok (.goto 10, 3) := by decide +kernel
theorem dX4_read_57 : decode cX4_read 57 = .ok (.aload 8, 2) := by decide +kernel
theorem dX4_read_59 : decode cX4_read 59 = .ok (.aload 6, 2) := by decide +kernel
theorem dX4_read_61 : decode cX4_read 61 = .ok (.invokevirtual 82, 3) := by decide +kernel
theorem dX4_read_64 : decode cX4_read 64 = .ok (.astore 9, 2) := by decide +kernel
theorem dX4_read_66 : decode cX4_read 66 = .ok (.aload 9, 2) := by decide +kernel
theorem dX4_read_68 : decode cX4_read 68 = .ok (.ifnonnull 6, 3) := by decide +kernel
theorem dX4_read_71 : decode cX4_read 71 = .ok (.bipush (-2), 2) := by decide +kernel
theorem dX4_read_73 : decode cX4_read 73 = .ok (.ireturn, 1) := by decide +kernel
theorem dX4_read_74 : decode cX4_read 74 = .ok (.aload 9, 2) := by decide +kernel
theorem dX4_read_76 : decode cX4_read 76 = .ok (.iload_n 3, 1) := by decide +kernel
theorem dX4_read_77 : decode cX4_read 77 = .ok (.invokevirtual 94, 3) := by decide +kernel
theorem dX4_read_80 : decode cX4_read 80 = .ok (.ifCond .ne 10, 3) := by decide +kernel
theorem dX4_read_83 : decode cX4_read 83 = .ok (.aload 9, 2) := by decide +kernel
theorem dX4_read_85 : decode cX4_read 85 = .ok (.iload_n 3, 1) := by decide +kernel
theorem dX4_read_86 : decode cX4_read 86 = .ok (.invokevirtual 172, 3) := by decide +kernel
theorem dX4_read_89 : decode cX4_read 89 = .ok (.ireturn, 1) := by decide +kernel
theorem dX4_read_90 : decode cX4_read 90 = .ok (.aload 8, 2) := by decide +kernel
theorem dX4_read_92 : decode cX4_read 92 = .ok (.aload 9, 2) := by decide +kernel
theorem dX4_read_94 : decode cX4_read 94 = .ok (.invokestatic 176, 3) := by decide +kernel
theorem dX4_read_97 : decode cX4_read 97 = .ok (.iinc 7 1, 3) := by decide +kernel
theorem dX4_read_100 : decode cX4_read 100 = .ok (.goto (-68), 3) := by decide +kernel
theorem dX4_read_103 : decode cX4_read 103 = .ok (.bipush (-2), 2) := by decide +kernel
theorem dX4_read_105 : decode cX4_read 105 = .ok (.ireturn, 1) := by decide +kernel
theorem dX4_state_0 : decode cX4_state 0 = .ok (.aload_n 0, 1) := by decide +kernel
theorem dX4_state_1 : decode cX4_state 1 = .ok (.iload_n 1, 1) := by decide +kernel
theorem dX4_state_2 : decode cX4_state 2 = .ok (.invokevirtual 116, 3) := by decide +kernel
theorem dX4_state_5 : decode cX4_state 5 = .ok (.getfield 136, 3) := by decide +kernel
theorem dX4_state_8 : decode cX4_state 8 = .ok (.ireturn, 1) := by decide +kernel
theorem dX4_pieces_0 : decode cX4_pieces 0 = .ok (.aload_n 0, 1) := by decide +kernel
theorem dX4_pieces_1 : decode cX4_pieces 1 = .ok (.iload_n 1, 1) := by decide +kernel
theorem dX4_pieces_2 : decode cX4_pieces 2 = .ok (.invokevirtual 116, 3) := by decide +kernel
theorem dX4_pieces_5 : decode cX4_pieces 5 = .ok (.getfield 124, 3) := by decide +kernel
theorem dX4_pieces_8 : decode cX4_pieces 8 = .ok (.invokevirtual 44, 3) := by decide +kernel
theorem dX4_pieces_11 : decode cX4_pieces 11 = .ok (.ireturn, 1) := by decide +kernel
theorem dX4_pieceAt_0 : decode cX4_pieceAt 0 = .ok (.aload_n 0, 1) := by decide +kernel
theorem dX4_pieceAt_1 : decode cX4_pieceAt 1 = .ok (.iload_n 1, 1) := by decide +kernel
theorem dX4_pieceAt_2 : decode cX4_pieceAt 2 = .ok (.invokevirtual 116, 3) := by decide +kernel
theorem dX4_pieceAt_5 : decode cX4_pieceAt 5 = .ok (.iload_n 2, 1) := by decide +kernel
theorem dX4_pieceAt_6 : decode cX4_pieceAt 6 = .ok (.invokestatic 158, 3) := by decide +kernel
theorem dX4_pieceAt_9 : decode cX4_pieceAt 9 = .ok (.getfield 180, 3) := by decide +kernel
theorem dX4_pieceAt_12 : decode cX4_pieceAt 12 = .ok (.ireturn, 1) := by decide +kernel
theorem dX4_piece_0 : decode cX4_piece 0 = .ok (.aload_n 0, 1) := by decide +kernel
theorem dX4_piece_1 : decode cX4_piece 1 = .ok (.iload_n 1, 1) := by decide +kernel
theorem dX4_piece_2 : decode cX4_piece 2 = .ok (.invokevirtual 75, 3) := by decide +kernel
theorem dX4_piece_5 : decode cX4_piece 5 = .ok (.astore_n 3, 1) := by decide +kernel
theorem dX4_piece_6 : decode cX4_piece 6 = .ok (.iload_n 2, 1) := by decide +kernel
theorem dX4_piece_7 : decode cX4_piece 7 = .ok (.tableswitch 104 0 5 #[37, 42, 50, 55, 82, 99], 37) := by decide +kernel
theorem dX4_piece_44 : decode cX4_piece 44 = .ok (.aload_n 3, 1) := by decide +kernel
theorem dX4_piece_45 : decode cX4_piece 45 = .ok (.getfield 181, 3) := by decide +kernel
theorem dX4_piece_48 : decode cX4_piece 48 = .ok (.ireturn, 1) := by decide +kernel
theorem dX4_piece_49 : decode cX4_piece 49 = .ok (.aload_n 3, 1) := by decide +kernel
theorem dX4_piece_50 : decode cX4_piece 50 = .ok (.getfield 184, 3) := by decide +kernel
theorem dX4_piece_53 : decode cX4_piece 53 = .ok (.invokevirtual 44, 3) := by decide +kernel
theorem dX4_piece_56 : decode cX4_piece 56 = .ok (.ireturn, 1) := by decide +kernel
theorem dX4_piece_57 : decode cX4_piece 57 = .ok (.aload_n 3, 1) := by decide +kernel
theorem dX4_piece_58 : decode cX4_piece 58 = .ok (.invokestatic 187, 3) := by decide +kernel
theorem dX4_piece_61 : decode cX4_piece 61 = .ok (.ireturn, 1) := by decide +kernel
theorem dX4_piece_62 : decode cX4_piece 62 = .ok (.aload_n 3, 1) := by decide +kernel
theorem dX4_piece_63 : decode cX4_piece 63 = .ok (.getfield 190, 3) := by decide +kernel
theorem dX4_piece_66 : decode cX4_piece 66 = .ok (.ifnull 21, 3) := by decide +kernel
theorem dX4_piece_69 : decode cX4_piece 69 = .ok (.aload_n 0, 1) := by decide +kernel
theorem dX4_piece_70 : decode cX4_piece 70 = .ok (.aload_n 3, 1) := by decide +kernel
theorem dX4_piece_71 : decode cX4_piece 71 = .ok (.invokevirtual 194, 3) := by decide +kernel
theorem dX4_piece_74 : decode cX4_piece 74 = .ok (.ifCond .eq 13, 3) := by decide +kernel
theorem dX4_piece_77 : decode cX4_piece 77 = .ok (.aload_n 3, 1) := by decide +kernel
theorem dX4_piece_78 : decode cX4_piece 78 = .ok (.getfield 190, 3) := by decide +kernel
theorem dX4_piece_81 : decode cX4_piece 81 = .ok (.getfield 62, 3) := by decide +kernel
theorem dX4_piece_84 : decode cX4_piece 84 = .ok (.goto 4, 3) := by decide +kernel
theorem dX4_piece_87 : decode cX4_piece 87 = .ok (.iconst (-1), 1) := by decide +kernel
theorem dX4_piece_88 : decode cX4_piece 88 = .ok (.ireturn, 1) := by decide +kernel
theorem dX4_piece_89 : decode cX4_piece 89 = .ok (.aload_n 0, 1) := by decide +kernel
theorem dX4_piece_90 : decode cX4_piece 90 = .ok (.aload_n 3, 1) := by decide +kernel
theorem dX4_piece_91 : decode cX4_piece 91 = .ok (.invokevirtual 194, 3) := by decide +kernel
theorem dX4_piece_94 : decode cX4_piece 94 = .ok (.ifCond .eq 10, 3) := by decide +kernel
theorem dX4_piece_97 : decode cX4_piece 97 = .ok (.aload_n 3, 1) := by decide +kernel
theorem dX4_piece_98 : decode cX4_piece 98 = .ok (.getfield 198, 3) := by decide +kernel
theorem dX4_piece_101 : decode cX4_piece 101 = .ok (.goto 4, 3) := by decide +kernel
theorem dX4_piece_104 : decode cX4_piece 104 = .ok (.iconst (-1), 1) := by decide +kernel
theorem dX4_piece_105 : decode cX4_piece 105 = .ok (.ireturn, 1) := by decide +kernel
theorem dX4_piece_106 : decode cX4_piece 106 = .ok (.aload_n 3, 1) := by decide +kernel
theorem dX4_piece_107 : decode cX4_piece 107 = .ok (.getfield 133, 3) := by decide +kernel
theorem dX4_piece_110 : decode cX4_piece 110 = .ok (.ireturn, 1) := by decide +kernel
theorem dX4_piece_111 : decode cX4_piece 111 = .ok (.new 37, 3) := by decide +kernel
theorem dX4_piece_114 : decode cX4_piece 114 = .ok (.dup, 1) := by decide +kernel
theorem dX4_piece_115 : decode cX4_piece 115 = .ok (.ldc 201, 2) := by decide +kernel
theorem dX4_piece_117 : decode cX4_piece 117 = .ok (.invokespecial 41, 3) := by decide +kernel
theorem dX4_piece_120 : decode cX4_piece 120 = .ok (.athrow, 1) := by decide +kernel
theorem dX4_copyAt_0 : decode cX4_copyAt 0 = .ok (.aload_n 0, 1) := by decide +kernel
theorem dX4_copyAt_1 : decode cX4_copyAt 1 = .ok (.iload_n 1, 1) := by decide +kernel
theorem dX4_copyAt_2 : decode cX4_copyAt 2 = .ok (.invokevirtual 75, 3) := by decide +kernel
theorem dX4_copyAt_5 : decode cX4_copyAt 5 = .ok (.astore_n 3, 1) := by decide +kernel
theorem dX4_copyAt_6 : decode cX4_copyAt 6 = .ok (.iload_n 2, 1) := by decide +kernel
theorem dX4_copyAt_7 : decode cX4_copyAt 7 = .ok (.ifCond .lt 14, 3) := by decide +kernel
theorem dX4_copyAt_10 : decode cX4_copyAt 10 = .ok (.iload_n 2, 1) := by decide +kernel
theorem dX4_copyAt_11 : decode cX4_copyAt 11 = .ok (.aload_n 3, 1) := by decide +kernel
theorem dX4_copyAt_12 : decode cX4_copyAt 12 = .ok (.getfield 184, 3) := by decide +kernel
theorem dX4_copyAt_15 : decode cX4_copyAt 15 = .ok (.invokevirtual 44, 3) := by decide +kernel
theorem dX4_copyAt_18 : decode cX4_copyAt 18 = .ok (.if_icmp .lt 13, 3) := by decide +kernel
theorem dX4_copyAt_21 : decode cX4_copyAt 21 = .ok (.new 203, 3) := by decide +kernel
theorem dX4_copyAt_24 : decode cX4_copyAt 24 = .ok (.dup, 1) := by decide +kernel
theorem dX4_copyAt_25 : decode cX4_copyAt 25 = .ok (.ldc 205, 2) := by decide +kernel
theorem dX4_copyAt_27 : decode cX4_copyAt 27 = .ok (.invokespecial 207, 3) := by decide +kernel
theorem dX4_copyAt_30 : decode cX4_copyAt 30 = .ok (.athrow, 1) := by decide +kernel
theorem dX4_copyAt_31 : decode cX4_copyAt 31 = .ok (.aload_n 3, 1) := by decide +kernel
theorem dX4_copyAt_32 : decode cX4_copyAt 32 = .ok (.getfield 184, 3) := by decide +kernel
theorem dX4_copyAt_35 : decode cX4_copyAt 35 = .ok (.iload_n 2, 1) := by decide +kernel
theorem dX4_copyAt_36 : decode cX4_copyAt 36 = .ok (.invokevirtual 127, 3) := by decide +kernel
theorem dX4_copyAt_39 : decode cX4_copyAt 39 = .ok (.checkcast 53, 3) := by decide +kernel
theorem dX4_copyAt_42 : decode cX4_copyAt 42 = .ok (.getfield 62, 3) := by decide +kernel
theorem dX4_copyAt_45 : decode cX4_copyAt 45 = .ok (.ireturn, 1) := by decide +kernel
theorem dX4_on_0 : decode cX4_on 0 = .ok (.aload_n 0, 1) := by decide +kernel
theorem dX4_on_1 : decode cX4_on 1 = .ok (.iload_n 1, 1) := by decide +kernel
theorem dX4_on_2 : decode cX4_on 2 = .ok (.invokevirtual 65, 3) := by decide +kernel
theorem dX4_on_5 : decode cX4_on 5 = .ok (.astore 4, 2) := by decide +kernel
theorem dX4_on_7 : decode cX4_on 7 = .ok (.aload_n 0, 1) := by decide +kernel
theorem dX4_on_8 : decode cX4_on 8 = .ok (.iload_n 2, 1) := by decide +kernel
theorem dX4_on_9 : decode cX4_on 9 = .ok (.invokevirtual 75, 3) := by decide +kernel
theorem dX4_on_12 : decode cX4_on 12 = .ok (.astore 5, 2) := by decide +kernel
theorem dX4_on_14 : decode cX4_on 14 = .ok (.iload_n 3, 1) := by decide +kernel
theorem dX4_on_15 : decode cX4_on 15 = .ok (.ifCond .lt 8, 3) := by decide +kernel
theorem dX4_on_18 : decode cX4_on 18 = .ok (.iload_n 3, 1) := by decide +kernel
theorem dX4_on_19 : decode cX4_on 19 = .ok (.iconst 2, 1) := by decide +kernel
theorem dX4_on_20 : decode cX4_on 20 = .ok (.if_icmp .le 13, 3) := by decide +kernel
theorem dX4_on_23 : decode cX4_on 23 = .ok (.new 37, 3) := by decide +kernel
theorem dX4_on_26 : decode cX4_on 26 = .ok (.dup, 1) := by decide +kernel
theorem dX4_on_27 : decode cX4_on 27 = .ok (.ldc 208, 2) := by decide +kernel
theorem dX4_on_29 : decode cX4_on 29 = .ok (.invokespecial 41, 3) := by decide +kernel
theorem dX4_on_32 : decode cX4_on 32 = .ok (.athrow, 1) := by decide +kernel
theorem dX4_on_33 : decode cX4_on 33 = .ok (.aload 4, 2) := by decide +kernel
theorem dX4_on_35 : decode cX4_on 35 = .ok (.aload 5, 2) := by decide +kernel
theorem dX4_on_37 : decode cX4_on 37 = .ok (.invokevirtual 82, 3) := by decide +kernel
theorem dX4_on_40 : decode cX4_on 40 = .ok (.astore 6, 2) := by decide +kernel
theorem dX4_on_42 : decode cX4_on 42 = .ok (.aload 6, 2) := by decide +kernel
theorem dX4_on_44 : decode cX4_on 44 = .ok (.ifnonnull 5, 3) := by decide +kernel
theorem dX4_on_47 : decode cX4_on 47 = .ok (.iconst (-1), 1) := by decide +kernel
theorem dX4_on_48 : decode cX4_on 48 = .ok (.ireturn, 1) := by decide +kernel
theorem dX4_on_49 : decode cX4_on 49 = .ok (.iload_n 3, 1) := by decide +kernel
theorem dX4_on_50 : decode cX4_on 50 = .ok (.ifCond .ne 9, 3) := by decide +kernel
theorem dX4_on_53 : decode cX4_on 53 = .ok (.aload 6, 2) := by decide +kernel
theorem dX4_on_55 : decode cX4_on 55 = .ok (.getfield 210, 3) := by decide +kernel
theorem dX4_on_58 : decode cX4_on 58 = .ok (.ireturn, 1) := by decide +kernel
theorem dX4_on_59 : decode cX4_on 59 = .ok (.iload_n 3, 1) := by decide +kernel
theorem dX4_on_60 : decode cX4_on 60 = .ok (.iconst 1, 1) := by decide +kernel
theorem dX4_on_61 : decode cX4_on 61 = .ok (.if_icmp .ne 11, 3) := by decide +kernel
theorem dX4_on_64 : decode cX4_on 64 = .ok (.aload 6, 2) := by decide +kernel
theorem dX4_on_66 : decode cX4_on 66 = .ok (.getfield 211, 3) := by decide +kernel
theorem dX4_on_69 : decode cX4_on 69 = .ok (.goto 8, 3) := by decide +kernel
theorem dX4_on_72 : decode cX4_on 72 = .ok (.aload 6, 2) := by decide +kernel
theorem dX4_on_74 : decode cX4_on 74 = .ok (.getfield 214, 3) := by decide +kernel
theorem dX4_on_77 : decode cX4_on 77 = .ok (.ireturn, 1) := by decide +kernel
theorem dX4_cellOn_0 : decode cX4_cellOn 0 = .ok (.aload_n 0, 1) := by decide +kernel
theorem dX4_cellOn_1 : decode cX4_cellOn 1 = .ok (.iload_n 1, 1) := by decide +kernel
theorem dX4_cellOn_2 : decode cX4_cellOn 2 = .ok (.invokevirtual 65, 3) := by decide +kernel
theorem dX4_cellOn_5 : decode cX4_cellOn 5 = .ok (.astore 4, 2) := by decide +kernel
theorem dX4_cellOn_7 : decode cX4_cellOn 7 = .ok (.aload_n 0, 1) := by decide +kernel
theorem dX4_cellOn_8 : decode cX4_cellOn 8 = .ok (.iload_n 2, 1) := by decide +kernel
theorem dX4_cellOn_9 : decode cX4_cellOn 9 = .ok (.invokevirtual 75, 3) := by decide +kernel
theorem dX4_cellOn_12 : decode cX4_cellOn 12 = .ok (.astore 5, 2) := by decide +kernel
theorem dX4_cellOn_14 : decode cX4_cellOn 14 = .ok (.iload_n 3, 1) := by decide +kernel
theorem dX4_cellOn_15 : decode cX4_cellOn 15 = .ok (.invokestatic 79, 3) := by decide +kernel
theorem dX4_cellOn_18 : decode cX4_cellOn 18 = .ok (.aload 4, 2) := by decide +kernel
theorem dX4_cellOn_20 : decode cX4_cellOn 20 = .ok (.aload 5, 2) := by decide +kernel
theorem dX4_cellOn_22 : decode cX4_cellOn 22 = .ok (.invokevirtual 82, 3) := by decide +kernel
theorem dX4_cellOn_25 : decode cX4_cellOn 25 = .ok (.astore 6, 2) := by decide +kernel
theorem dX4_cellOn_27 : decode cX4_cellOn 27 = .ok (.aload 6, 2) := by decide +kernel
theorem dX4_cellOn_29 : decode cX4_cellOn 29 = .ok (.ifnonnull 7, 3) := by decide +kernel
theorem dX4_cellOn_32 : decode cX4_cellOn 32 = .ok (.iconst (-1), 1) := by decide +kernel
theorem dX4_cellOn_33 : decode cX4_cellOn 33 = .ok (.goto 9, 3) := by decide +kernel
theorem dX4_cellOn_36 : decode cX4_cellOn 36 = .ok (.aload 6, 2) := by decide +kernel
theorem dX4_cellOn_38 : decode cX4_cellOn 38 = .ok (.iload_n 3, 1) := by decide +kernel
theorem dX4_cellOn_39 : decode cX4_cellOn 39 = .ok (.invokevirtual 172, 3) := by decide +kernel
theorem dX4_cellOn_42 : decode cX4_cellOn 42 = .ok (.ireturn, 1) := by decide +kernel
theorem dX4_load_0 : decode cX4_load 0 = .ok (.aload_n 0, 1) := by decide +kernel
theorem dX4_load_1 : decode cX4_load 1 = .ok (.iload_n 1, 1) := by decide +kernel
theorem dX4_load_2 : decode cX4_load 2 = .ok (.invokevirtual 65, 3) := by decide +kernel
theorem dX4_load_5 : decode cX4_load 5 = .ok (.getfield 217, 3) := by decide +kernel
theorem dX4_load_8 : decode cX4_load 8 = .ok (.ireturn, 1) := by decide +kernel
theorem dX4_isCounted_0 : decode cX4_isCounted 0 = .ok (.aload_n 0, 1) := by decide +kernel
theorem dX4_isCounted_1 : decode cX4_isCounted 1 = .ok (.iload_n 1, 1) := by decide +kernel
theorem dX4_isCounted_2 : decode cX4_isCounted 2 = .ok (.invokevirtual 65, 3) := by decide +kernel
theorem dX4_isCounted_5 : decode cX4_isCounted 5 = .ok (.getfield 220, 3) := by decide +kernel
theorem dX4_isCounted_8 : decode cX4_isCounted 8 = .ok (.ireturn, 1) := by decide +kernel
theorem dX4_walk_0 : decode cX4_walk 0 = .ok (.iload_n 1, 1) := by decide +kernel
theorem dX4_walk_1 : decode cX4_walk 1 = .ok (.ifCond .lt 8, 3) := by decide +kernel
theorem dX4_walk_4 : decode cX4_walk 4 = .ok (.iload_n 1, 1) := by decide +kernel
theorem dX4_walk_5 : decode cX4_walk 5 = .ok (.iconst 3, 1) := by decide +kernel
theorem dX4_walk_6 : decode cX4_walk 6 = .ok (.if_icmp .le 13, 3) := by decide +kernel
theorem dX4_walk_9 : decode cX4_walk 9 = .ok (.new 37, 3) := by decide +kernel
theorem dX4_walk_12 : decode cX4_walk 12 = .ok (.dup, 1) := by decide +kernel
theorem dX4_walk_13 : decode cX4_walk 13 = .ok (.ldc 223, 2) := by decide +kernel
theorem dX4_walk_15 : decode cX4_walk 15 = .ok (.invokespecial 41, 3) := by decide +kernel
theorem dX4_walk_18 : decode cX4_walk 18 = .ok (.athrow, 1) := by decide +kernel
theorem dX4_walk_19 : decode cX4_walk 19 = .ok (.iconst 0, 1) := by decide +kernel
theorem dX4_walk_20 : decode cX4_walk 20 = .ok (.istore_n 2, 1) := by decide +kernel
theorem dX4_walk_21 : decode cX4_walk 21 = .ok (.iconst 0, 1) := by decide +kernel
theorem dX4_walk_22 : decode cX4_walk 22 = .ok (.istore_n 3, 1) := by decide +kernel
theorem dX4_walk_23 : decode cX4_walk 23 = .ok (.iload_n 3, 1) := by decide +kernel
theorem dX4_walk_24 : decode cX4_walk 24 = .ok (.aload_n 0, 1) := by decide +kernel
theorem dX4_walk_25 : decode cX4_walk 25 = .ok (.getfield 16, 3) := by decide +kernel
theorem dX4_walk_28 : decode cX4_walk 28 = .ok (.invokevirtual 44, 3) := by decide +kernel
theorem dX4_walk_31 : decode cX4_walk 31 = .ok (.if_icmp .ge 42, 3) := by decide +kernel
theorem dX4_walk_34 : decode cX4_walk 34 = .ok (.aload_n 0, 1) := by decide +kernel
theorem dX4_walk_35 : decode cX4_walk 35 = .ok (.getfield 16, 3) := by decide +kernel
theorem dX4_walk_38 : decode cX4_walk 38 = .ok (.iload_n 3, 1) := by decide +kernel
theorem dX4_walk_39 : decode cX4_walk 39 = .ok (.invokevirtual 127, 3) := by decide +kernel
theorem dX4_walk_42 : decode cX4_walk 42 = .ok (.checkcast 131, 3) := by decide +kernel
theorem dX4_walk_45 : decode cX4_walk 45 = .ok (.astore 4, 2) := by decide +kernel
theorem dX4_walk_47 : decode cX4_walk 47 = .ok (.aload 4, 2) := by decide +kernel
theorem dX4_walk_49 : decode cX4_walk 49 = .ok (.invokevirtual 225, 3) := by decide +kernel
theorem dX4_walk_52 : decode cX4_walk 52 = .ok (.ifCond .ne 15, 3) := by decide +kernel
theorem dX4_walk_55 : decode cX4_walk 55 = .ok (.aload 4, 2) := by decide +kernel
theorem dX4_walk_57 : decode cX4_walk 57 = .ok (.iload_n 1, 1) := by decide +kernel
theorem dX4_walk_58 : decode cX4_walk 58 = .ok (.invokestatic 229, 3) := by decide +kernel
theorem dX4_walk_61 : decode cX4_walk 61 = .ok (.ifCond .eq 6, 3) := by decide +kernel
theorem dX4_walk_64 : decode cX4_walk 64 = .ok (.iinc 2 1, 3) := by decide +kernel
theorem dX4_walk_67 : decode cX4_walk 67 = .ok (.iinc 3 1, 3) := by decide +kernel
theorem dX4_walk_70 : decode cX4_walk 70 = .ok (.goto (-47), 3) := by decide +kernel
theorem dX4_walk_73 : decode cX4_walk 73 = .ok (.iload_n 2, 1) := by decide +kernel
theorem dX4_walk_74 : decode cX4_walk 74 = .ok (.ireturn, 1) := by decide +kernel
theorem dX4_isFoundByWalk_0 : decode cX4_isFoundByWalk 0 = .ok (.aload_n 0, 1) := by decide +kernel
theorem dX4_isFoundByWalk_1 : decode cX4_isFoundByWalk 1 = .ok (.getfield 184, 3) := by decide +kernel
theorem dX4_isFoundByWalk_4 : decode cX4_isFoundByWalk 4 = .ok (.invokevirtual 44, 3) := by decide +kernel
theorem dX4_isFoundByWalk_7 : decode cX4_isFoundByWalk 7 = .ok (.istore_n 2, 1) := by decide +kernel
theorem dX4_isFoundByWalk_8 : decode cX4_isFoundByWalk 8 = .ok (.iload_n 1, 1) := by decide +kernel
theorem dX4_isFoundByWalk_9 : decode cX4_isFoundByWalk 9 = .ok (.tableswitch 62 0 2 #[27, 40, 51], 27) := by decide +kernel
theorem dX4_isFoundByWalk_36 : decode cX4_isFoundByWalk 36 = .ok (.aload_n 0, 1) := by decide +kernel
theorem dX4_isFoundByWalk_37 : decode cX4_isFoundByWalk 37 = .ok (.invokestatic 187, 3) := by decide +kernel
theorem dX4_isFoundByWalk_40 : decode cX4_isFoundByWalk 40 = .ok (.ifCond .ne 7, 3) := by decide +kernel
theorem dX4_isFoundByWalk_43 : decode cX4_isFoundByWalk 43 = .ok (.iconst 1, 1) := by decide +kernel
theorem dX4_isFoundByWalk_44 : decode cX4_isFoundByWalk 44 = .ok (.goto 4, 3) := by decide +kernel
theorem dX4_isFoundByWalk_47 : decode cX4_isFoundByWalk 47 = .ok (.iconst 0, 1) := by decide +kernel
theorem dX4_isFoundByWalk_48 : decode cX4_isFoundByWalk 48 = .ok (.ireturn, 1) := by decide +kernel
theorem dX4_isFoundByWalk_49 : decode cX4_isFoundByWalk 49 = .ok (.iload_n 2, 1) := by decide +kernel
theorem dX4_isFoundByWalk_50 : decode cX4_isFoundByWalk 50 = .ok (.iconst 3, 1) := by decide +kernel
theorem dX4_isFoundByWalk_51 : decode cX4_isFoundByWalk 51 = .ok (.if_icmp .ge 7, 3) := by decide +kernel
theorem dX4_isFoundByWalk_54 : decode cX4_isFoundByWalk 54 = .ok (.iconst 1, 1) := by decide +kernel
theorem dX4_isFoundByWalk_55 : decode cX4_isFoundByWalk 55 = .ok (.goto 4, 3) := by decide +kernel
theorem dX4_isFoundByWalk_58 : decode cX4_isFoundByWalk 58 = .ok (.iconst 0, 1) := by decide +kernel
theorem dX4_isFoundByWalk_59 : decode cX4_isFoundByWalk 59 = .ok (.ireturn, 1) := by decide +kernel
theorem dX4_isFoundByWalk_60 : decode cX4_isFoundByWalk 60 = .ok (.iload_n 2, 1) := by decide +kernel
theorem dX4_isFoundByWalk_61 : decode cX4_isFoundByWalk 61 = .ok (.iconst 3, 1) := by decide +kernel
theorem dX4_isFoundByWalk_62 : decode cX4_isFoundByWalk 62 = .ok (.if_icmp .le 7, 3) := by decide +kernel
theorem dX4_isFoundByWalk_65 : decode cX4_isFoundByWalk 65 = .ok (.iconst 1, 1) := by decide +kernel
theorem dX4_isFoundByWalk_66 : decode cX4_isFoundByWalk 66 = .ok (.goto 4, 3) := by decide +kernel
theorem dX4_isFoundByWalk_69 : decode cX4_isFoundByWalk 69 = .ok (.iconst 0, 1) := by decide +kernel
theorem dX4_isFoundByWalk_70 : decode cX4_isFoundByWalk 70 = .ok (.ireturn, 1) := by decide +kernel
theorem dX4_isFoundByWalk_71 : decode cX4_isFoundByWalk 71 = .ok (.iload_n 2, 1) := by decide +kernel
theorem dX4_isFoundByWalk_72 : decode cX4_isFoundByWalk 72 = .ok (.iconst 2, 1) := by decide +kernel
theorem dX4_isFoundByWalk_73 : decode cX4_isFoundByWalk 73 = .ok (.if_icmp .lt 29, 3) := by decide +kernel
theorem dX4_isFoundByWalk_76 : decode cX4_isFoundByWalk 76 = .ok (.aload_n 0, 1) := by decide +kernel
theorem dX4_isFoundByWalk_77 : decode cX4_isFoundByWalk 77 = .ok (.aload_n 0, 1) := by decide +kernel
theorem dX4_isFoundByWalk_78 : decode cX4_isFoundByWalk 78 = .ok (.getfield 184, 3) := by decide +kernel
theorem dX4_isFoundByWalk_81 : decode cX4_isFoundByWalk 81 = .ok (.iconst 0, 1) := by decide +kernel
theorem dX4_isFoundByWalk_82 : decode cX4_isFoundByWalk 82 = .ok (.invokevirtual 127, 3) := by decide +kernel
theorem dX4_isFoundByWalk_85 : decode cX4_isFoundByWalk 85 = .ok (.checkcast 53, 3) := by decide +kernel
theorem dX4_isFoundByWalk_88 : decode cX4_isFoundByWalk 88 = .ok (.getfield 233, 3) := by decide +kernel
theorem dX4_isFoundByWalk_91 : decode cX4_isFoundByWalk 91 = .ok (.invokevirtual 236, 3) := by decide +kernel
theorem dX4_isFoundByWalk_94 : decode cX4_isFoundByWalk 94 = .ok (.iload_n 2, 1) := by decide +kernel
theorem dX4_isFoundByWalk_95 : decode cX4_isFoundByWalk 95 = .ok (.if_icmp .ne 7, 3) := by decide +kernel
theorem dX4_isFoundByWalk_98 : decode cX4_isFoundByWalk 98 = .ok (.iconst 1, 1) := by decide +kernel
theorem dX4_isFoundByWalk_99 : decode cX4_isFoundByWalk 99 = .ok (.goto 4, 3) := by decide +kernel
theorem dX4_isFoundByWalk_102 : decode cX4_isFoundByWalk 102 = .ok (.iconst 0, 1) := by decide +kernel
theorem dX4_isFoundByWalk_103 : decode cX4_isFoundByWalk 103 = .ok (.ireturn, 1) := by decide +kernel
theorem dX4_nodeNumbered_0 : decode cX4_nodeNumbered 0 = .ok (.iload_n 1, 1) := by decide +kernel
theorem dX4_nodeNumbered_1 : decode cX4_nodeNumbered 1 = .ok (.ifCond .lt 14, 3) := by decide +kernel
theorem dX4_nodeNumbered_4 : decode cX4_nodeNumbered 4 = .ok (.iload_n 1, 1) := by decide +kernel
theorem dX4_nodeNumbered_5 : decode cX4_nodeNumbered 5 = .ok (.aload_n 0, 1) := by decide +kernel
theorem dX4_nodeNumbered_6 : decode cX4_nodeNumbered 6 = .ok (.getfield 10, 3) := by decide +kernel
theorem dX4_nodeNumbered_9 : decode cX4_nodeNumbered 9 = .ok (.invokevirtual 44, 3) := by decide +kernel
theorem dX4_nodeNumbered_12 : decode cX4_nodeNumbered 12 = .ok (.if_icmp .lt 13, 3) := by decide +kernel
theorem dX4_nodeNumbered_15 : decode cX4_nodeNumbered 15 = .ok (.new 203, 3) := by decide +kernel
theorem dX4_nodeNumbered_18 : decode cX4_nodeNumbered 18 = .ok (.dup, 1) := by decide +kernel
theorem dX4_nodeNumbered_19 : decode cX4_nodeNumbered 19 = .ok (.ldc 239, 2) := by decide +kernel
theorem dX4_nodeNumbered_21 : decode cX4_nodeNumbered 21 = .ok (.invokespecial 207, 3) := by decide +kernel
theorem dX4_nodeNumbered_24 : decode cX4_nodeNumbered 24 = .ok (.athrow, 1) := by decide +kernel
theorem dX4_nodeNumbered_25 : decode cX4_nodeNumbered 25 = .ok (.aload_n 0, 1) := by decide +kernel
theorem dX4_nodeNumbered_26 : decode cX4_nodeNumbered 26 = .ok (.getfield 10, 3) := by decide +kernel
theorem dX4_nodeNumbered_29 : decode cX4_nodeNumbered 29 = .ok (.iload_n 1, 1) := by decide +kernel
theorem dX4_nodeNumbered_30 : decode cX4_nodeNumbered 30 = .ok (.invokevirtual 127, 3) := by decide +kernel
theorem dX4_nodeNumbered_33 : decode cX4_nodeNumbered 33 = .ok (.checkcast 53, 3) := by decide +kernel
theorem dX4_nodeNumbered_36 : decode cX4_nodeNumbered 36 = .ok (.areturn, 1) := by decide +kernel
theorem dX4_pieceNumbered_0 : decode cX4_pieceNumbered 0 = .ok (.iload_n 1, 1) := by decide +kernel
theorem dX4_pieceNumbered_1 : decode cX4_pieceNumbered 1 = .ok (.ifCond .lt 14, 3) := by decide +kernel
theorem dX4_pieceNumbered_4 : decode cX4_pieceNumbered 4 = .ok (.iload_n 1, 1) := by decide +kernel
theorem dX4_pieceNumbered_5 : decode cX4_pieceNumbered 5 = .ok (.aload_n 0, 1) := by decide +kernel
theorem dX4_pieceNumbered_6 : decode cX4_pieceNumbered 6 = .ok (.getfield 16, 3) := by decide +kernel
theorem dX4_pieceNumbered_9 : decode cX4_pieceNumbered 9 = .ok (.invokevirtual 44, 3) := by decide +kernel
theorem dX4_pieceNumbered_12 : decode cX4_pieceNumbered 12 = .ok (.if_icmp .lt 13, 3) := by decide +kernel
theorem dX4_pieceNumbered_15 : decode cX4_pieceNumbered 15 = .ok (.new 203, 3) := by decide +kernel
theorem dX4_pieceNumbered_18 : decode cX4_pieceNumbered 18 = .ok (.dup, 1) := by decide +kernel
theorem dX4_pieceNumbered_19 : decode cX4_pieceNumbered 19 = .ok (.ldc 241, 2) := by decide +kernel
theorem dX4_pieceNumbered_21 : decode cX4_pieceNumbered 21 = .ok (.invokespecial 207, 3) := by decide +kernel
theorem dX4_pieceNumbered_24 : decode cX4_pieceNumbered 24 = .ok (.athrow, 1) := by decide +kernel
theorem dX4_pieceNumbered_25 : decode cX4_pieceNumbered 25 = .ok (.aload_n 0, 1) := by decide +kernel
theorem dX4_pieceNumbered_26 : decode cX4_pieceNumbered 26 = .ok (.getfield 16, 3) := by decide +kernel
theorem dX4_pieceNumbered_29 : decode cX4_pieceNumbered 29 = .ok (.iload_n 1, 1) := by decide +kernel
theorem dX4_pieceNumbered_30 : decode cX4_pieceNumbered 30 = .ok (.invokevirtual 127, 3) := by decide +kernel
theorem dX4_pieceNumbered_33 : decode cX4_pieceNumbered 33 = .ok (.checkcast 131, 3) := by decide +kernel
theorem dX4_pieceNumbered_36 : decode cX4_pieceNumbered 36 = .ok (.areturn, 1) := by decide +kernel
theorem dX4_fileNumbered_0 : decode cX4_fileNumbered 0 = .ok (.iload_n 1, 1) := by decide +kernel
theorem dX4_fileNumbered_1 : decode cX4_fileNumbered 1 = .ok (.ifCond .lt 14, 3) := by decide +kernel
theorem dX4_fileNumbered_4 : decode cX4_fileNumbered 4 = .ok (.iload_n 1, 1) := by decide +kernel
theorem dX4_fileNumbered_5 : decode cX4_fileNumbered 5 = .ok (.aload_n 0, 1) := by decide +kernel
theorem dX4_fileNumbered_6 : decode cX4_fileNumbered 6 = .ok (.getfield 19, 3) := by decide +kernel
theorem dX4_fileNumbered_9 : decode cX4_fileNumbered 9 = .ok (.invokevirtual 44, 3) := by decide +kernel
theorem dX4_fileNumbered_12 : decode cX4_fileNumbered 12 = .ok (.if_icmp .lt 13, 3) := by decide +kernel
theorem dX4_fileNumbered_15 : decode cX4_fileNumbered 15 = .ok (.new 203, 3) := by decide +kernel
theorem dX4_fileNumbered_18 : decode cX4_fileNumbered 18 = .ok (.dup, 1) := by decide +kernel
theorem dX4_fileNumbered_19 : decode cX4_fileNumbered 19 = .ok (.ldc 243, 2) := by decide +kernel
theorem dX4_fileNumbered_21 : decode cX4_fileNumbered 21 = .ok (.invokespecial 207, 3) := by decide +kernel
theorem dX4_fileNumbered_24 : decode cX4_fileNumbered 24 = .ok (.athrow, 1) := by decide +kernel
theorem dX4_fileNumbered_25 : decode cX4_fileNumbered 25 = .ok (.aload_n 0, 1) := by decide +kernel
theorem dX4_fileNumbered_26 : decode cX4_fileNumbered 26 = .ok (.getfield 19, 3) := by decide +kernel
theorem dX4_fileNumbered_29 : decode cX4_fileNumbered 29 = .ok (.iload_n 1, 1) := by decide +kernel
theorem dX4_fileNumbered_30 : decode cX4_fileNumbered 30 = .ok (.invokevirtual 127, 3) := by decide +kernel
theorem dX4_fileNumbered_33 : decode cX4_fileNumbered 33 = .ok (.checkcast 114, 3) := by decide +kernel
theorem dX4_fileNumbered_36 : decode cX4_fileNumbered 36 = .ok (.areturn, 1) := by decide +kernel
theorem dX4_pieceInFile_0 : decode cX4_pieceInFile 0 = .ok (.iload_n 1, 1) := by decide +kernel
theorem dX4_pieceInFile_1 : decode cX4_pieceInFile 1 = .ok (.ifCond .lt 14, 3) := by decide +kernel
theorem dX4_pieceInFile_4 : decode cX4_pieceInFile 4 = .ok (.iload_n 1, 1) := by decide +kernel
theorem dX4_pieceInFile_5 : decode cX4_pieceInFile 5 = .ok (.aload_n 0, 1) := by decide +kernel
theorem dX4_pieceInFile_6 : decode cX4_pieceInFile 6 = .ok (.getfield 124, 3) := by decide +kernel
theorem dX4_pieceInFile_9 : decode cX4_pieceInFile 9 = .ok (.invokevirtual 44, 3) := by decide +kernel
theorem dX4_pieceInFile_12 : decode cX4_pieceInFile 12 = .ok (.if_icmp .lt 13, 3) := by decide +kernel
theorem dX4_pieceInFile_15 : decode cX4_pieceInFile 15 = .ok (.new 203, 3) := by decide +kernel
theorem dX4_pieceInFile_18 : decode cX4_pieceInFile 18 = .ok (.dup, 1) := by decide +kernel
theorem dX4_pieceInFile_19 : decode cX4_pieceInFile 19 = .ok (.ldc 245, 2) := by decide +kernel
theorem dX4_pieceInFile_21 : decode cX4_pieceInFile 21 = .ok (.invokespecial 207, 3) := by decide +kernel
theorem dX4_pieceInFile_24 : decode cX4_pieceInFile 24 = .ok (.athrow, 1) := by decide +kernel
theorem dX4_pieceInFile_25 : decode cX4_pieceInFile 25 = .ok (.aload_n 0, 1) := by decide +kernel
theorem dX4_pieceInFile_26 : decode cX4_pieceInFile 26 = .ok (.getfield 124, 3) := by decide +kernel
theorem dX4_pieceInFile_29 : decode cX4_pieceInFile 29 = .ok (.iload_n 1, 1) := by decide +kernel
theorem dX4_pieceInFile_30 : decode cX4_pieceInFile 30 = .ok (.invokevirtual 127, 3) := by decide +kernel
theorem dX4_pieceInFile_33 : decode cX4_pieceInFile 33 = .ok (.checkcast 131, 3) := by decide +kernel
theorem dX4_pieceInFile_36 : decode cX4_pieceInFile 36 = .ok (.areturn, 1) := by decide +kernel
theorem dX4_requireCell_0 : decode cX4_requireCell 0 = .ok (.iload_n 0, 1) := by decide +kernel
theorem dX4_requireCell_1 : decode cX4_requireCell 1 = .ok (.ifCond .lt 8, 3) := by decide +kernel
theorem dX4_requireCell_4 : decode cX4_requireCell 4 = .ok (.iload_n 0, 1) := by decide +kernel
theorem dX4_requireCell_5 : decode cX4_requireCell 5 = .ok (.iconst 4, 1) := by decide +kernel
theorem dX4_requireCell_6 : decode cX4_requireCell 6 = .ok (.if_icmp .lt 13, 3) := by decide +kernel
theorem dX4_requireCell_9 : decode cX4_requireCell 9 = .ok (.new 203, 3) := by decide +kernel
theorem dX4_requireCell_12 : decode cX4_requireCell 12 = .ok (.dup, 1) := by decide +kernel
theorem dX4_requireCell_13 : decode cX4_requireCell 13 = .ok (.ldc 247, 2) := by decide +kernel
theorem dX4_requireCell_15 : decode cX4_requireCell 15 = .ok (.invokespecial 207, 3) := by decide +kernel
theorem dX4_requireCell_18 : decode cX4_requireCell 18 = .ok (.athrow, 1) := by decide +kernel
theorem dX4_requireCell_19 : decode cX4_requireCell 19 = .ok (.return_, 1) := by decide +kernel
theorem dX4_requireRack_0 : decode cX4_requireRack 0 = .ok (.iload_n 0, 1) := by decide +kernel
theorem dX4_requireRack_1 : decode cX4_requireRack 1 = .ok (.ifCond .lt 8, 3) := by decide +kernel
theorem dX4_requireRack_4 : decode cX4_requireRack 4 = .ok (.iload_n 0, 1) := by decide +kernel
theorem dX4_requireRack_5 : decode cX4_requireRack 5 = .ok (.iconst 4, 1) := by decide +kernel
theorem dX4_requireRack_6 : decode cX4_requireRack 6 = .ok (.if_icmp .lt 13, 3) := by decide +kernel
theorem dX4_requireRack_9 : decode cX4_requireRack 9 = .ok (.new 203, 3) := by decide +kernel
theorem dX4_requireRack_12 : decode cX4_requireRack 12 = .ok (.dup, 1) := by decide +kernel
theorem dX4_requireRack_13 : decode cX4_requireRack 13 = .ok (.ldc 249, 2) := by decide +kernel
theorem dX4_requireRack_15 : decode cX4_requireRack 15 = .ok (.invokespecial 207, 3) := by decide +kernel
theorem dX4_requireRack_18 : decode cX4_requireRack 18 = .ok (.athrow, 1) := by decide +kernel
theorem dX4_requireRack_19 : decode cX4_requireRack 19 = .ok (.return_, 1) := by decide +kernel
theorem dX4_requireNumber_0 : decode cX4_requireNumber 0 = .ok (.iload_n 0, 1) := by decide +kernel
theorem dX4_requireNumber_1 : decode cX4_requireNumber 1 = .ok (.ifCond .lt 10, 3) := by decide +kernel
theorem dX4_requireNumber_4 : decode cX4_requireNumber 4 = .ok (.iload_n 0, 1) := by decide +kernel
theorem dX4_requireNumber_5 : decode cX4_requireNumber 5 = .ok (.sipush 999, 3) := by decide +kernel
theorem dX4_requireNumber_8 : decode cX4_requireNumber 8 = .ok (.if_icmp .le 13, 3) := by decide +kernel
theorem dX4_requireNumber_11 : decode cX4_requireNumber 11 = .ok (.new 37, 3) := by decide +kernel
theorem dX4_requireNumber_14 : decode cX4_requireNumber 14 = .ok (.dup, 1) := by decide +kernel
theorem dX4_requireNumber_15 : decode cX4_requireNumber 15 = .ok (.ldc 251, 2) := by decide +kernel
theorem dX4_requireNumber_17 : decode cX4_requireNumber 17 = .ok (.invokespecial 41, 3) := by decide +kernel
theorem dX4_requireNumber_20 : decode cX4_requireNumber 20 = .ok (.athrow, 1) := by decide +kernel
theorem dX4_requireNumber_21 : decode cX4_requireNumber 21 = .ok (.return_, 1) := by decide +kernel
theorem dX4_requireThere_0 : decode cX4_requireThere 0 = .ok (.aload_n 0, 1) := by decide +kernel
theorem dX4_requireThere_1 : decode cX4_requireThere 1 = .ok (.getfield 136, 3) := by decide +kernel
theorem dX4_requireThere_4 : decode cX4_requireThere 4 = .ok (.ifCond .eq 13, 3) := by decide +kernel
theorem dX4_requireThere_7 : decode cX4_requireThere 7 = .ok (.new 48, 3) := by decide +kernel
theorem dX4_requireThere_10 : decode cX4_requireThere 10 = .ok (.dup, 1) := by decide +kernel
theorem dX4_requireThere_11 : decode cX4_requireThere 11 = .ok (.ldc 253, 2) := by decide +kernel
theorem dX4_requireThere_13 : decode cX4_requireThere 13 = .ok (.invokespecial 52, 3) := by decide +kernel
theorem dX4_requireThere_16 : decode cX4_requireThere 16 = .ok (.athrow, 1) := by decide +kernel
theorem dX4_requireThere_17 : decode cX4_requireThere 17 = .ok (.return_, 1) := by decide +kernel
theorem dX4_requireRoomForPiece_0 : decode cX4_requireRoomForPiece 0 = .ok (.aload_n 0, 1) := by decide +kernel
theorem dX4_requireRoomForPiece_1 : decode cX4_requireRoomForPiece 1 = .ok (.getfield 16, 3) := by decide +kernel
theorem dX4_requireRoomForPiece_4 : decode cX4_requireRoomForPiece 4 = .ok (.invokevirtual 44, 3) := by decide +kernel
theorem dX4_requireRoomForPiece_7 : decode cX4_requireRoomForPiece 7 = .ok (.bipush 60, 2) := by decide +kernel
theorem dX4_requireRoomForPiece_9 : decode cX4_requireRoomForPiece 9 = .ok (.if_icmp .lt 13, 3) := by decide +kernel
theorem dX4_requireRoomForPiece_12 : decode cX4_requireRoomForPiece 12 = .ok (.new 48, 3) := by decide +kernel
theorem dX4_requireRoomForPiece_15 : decode cX4_requireRoomForPiece 15 = .ok (.dup, 1) := by decide +kernel
theorem dX4_requireRoomForPiece_16 : decode cX4_requireRoomForPiece 16 = .ok (.ldc 255, 2) := by decide +kernel
theorem dX4_requireRoomForPiece_18 : decode cX4_requireRoomForPiece 18 = .ok (.invokespecial 52, 3) := by decide +kernel
theorem dX4_requireRoomForPiece_21 : decode cX4_requireRoomForPiece 21 = .ok (.athrow, 1) := by decide +kernel
theorem dX4_requireRoomForPiece_22 : decode cX4_requireRoomForPiece 22 = .ok (.return_, 1) := by decide +kernel
theorem dX4_isGood_0 : decode cX4_isGood 0 = .ok (.aload_n 0, 1) := by decide +kernel
theorem dX4_isGood_1 : decode cX4_isGood 1 = .ok (.aload_n 1, 1) := by decide +kernel
theorem dX4_isGood_2 : decode cX4_isGood 2 = .ok (.invokevirtual 82, 3) := by decide +kernel
theorem dX4_isGood_5 : decode cX4_isGood 5 = .ok (.astore_n 2, 1) := by decide +kernel
theorem dX4_isGood_6 : decode cX4_isGood 6 = .ok (.aload_n 0, 1) := by decide +kernel
theorem dX4_isGood_7 : decode cX4_isGood 7 = .ok (.getfield 69, 3) := by decide +kernel
theorem dX4_isGood_10 : decode cX4_isGood 10 = .ok (.ifCond .eq 22, 3) := by decide +kernel
theorem dX4_isGood_13 : decode cX4_isGood 13 = .ok (.aload_n 2, 1) := by decide +kernel
theorem dX4_isGood_14 : decode cX4_isGood 14 = .ok (.ifnull 18, 3) := by decide +kernel
theorem dX4_isGood_17 : decode cX4_isGood 17 = .ok (.aload_n 2, 1) := by decide +kernel
theorem dX4_isGood_18 : decode cX4_isGood 18 = .ok (.getfield 210, 3) := by decide +kernel
theorem dX4_isGood_21 : decode cX4_isGood 21 = .ok (.aload_n 1, 1) := by decide +kernel
theorem dX4_isGood_22 : decode cX4_isGood 22 = .ok (.getfield 181, 3) := by decide +kernel
theorem dX4_isGood_25 : decode cX4_isGood 25 = .ok (.if_icmp .ne 7, 3) := by decide +kernel
theorem dX4_isGood_28 : decode cX4_isGood 28 = .ok (.iconst 1, 1) := by decide +kernel
theorem dX4_isGood_29 : decode cX4_isGood 29 = .ok (.goto 4, 3) := by decide +kernel
theorem dX4_isGood_32 : decode cX4_isGood 32 = .ok (.iconst 0, 1) := by decide +kernel
theorem dX4_isGood_33 : decode cX4_isGood 33 = .ok (.ireturn, 1) := by decide +kernel
theorem dX4_countGood_0 : decode cX4_countGood 0 = .ok (.iconst 0, 1) := by decide +kernel
theorem dX4_countGood_1 : decode cX4_countGood 1 = .ok (.istore_n 1, 1) := by decide +kernel
theorem dX4_countGood_2 : decode cX4_countGood 2 = .ok (.iconst 0, 1) := by decide +kernel
theorem dX4_countGood_3 : decode cX4_countGood 3 = .ok (.istore_n 2, 1) := by decide +kernel
theorem dX4_countGood_4 : decode cX4_countGood 4 = .ok (.iload_n 2, 1) := by decide +kernel
theorem dX4_countGood_5 : decode cX4_countGood 5 = .ok (.aload_n 0, 1) := by decide +kernel
theorem dX4_countGood_6 : decode cX4_countGood 6 = .ok (.getfield 184, 3) := by decide +kernel
theorem dX4_countGood_9 : decode cX4_countGood 9 = .ok (.invokevirtual 44, 3) := by decide +kernel
theorem dX4_countGood_12 : decode cX4_countGood 12 = .ok (.if_icmp .ge 30, 3) := by decide +kernel
theorem dX4_countGood_15 : decode cX4_countGood 15 = .ok (.aload_n 0, 1) := by decide +kernel
theorem dX4_countGood_16 : decode cX4_countGood 16 = .ok (.getfield 184, 3) := by decide +kernel
theorem dX4_countGood_19 : decode cX4_countGood 19 = .ok (.iload_n 2, 1) := by decide +kernel
theorem dX4_countGood_20 : decode cX4_countGood 20 = .ok (.invokevirtual 127, 3) := by decide +kernel
theorem dX4_countGood_23 : decode cX4_countGood 23 = .ok (.checkcast 53, 3) := by decide +kernel
theorem dX4_countGood_26 : decode cX4_countGood 26 = .ok (.aload_n 0, 1) := by decide +kernel
theorem dX4_countGood_27 : decode cX4_countGood 27 = .ok (.invokestatic 257, 3) := by decide +kernel
theorem dX4_countGood_30 : decode cX4_countGood 30 = .ok (.ifCond .eq 6, 3) := by decide +kernel
theorem dX4_countGood_33 : decode cX4_countGood 33 = .ok (.iinc 1 1, 3) := by decide +kernel
theorem dX4_countGood_36 : decode cX4_countGood 36 = .ok (.iinc 2 1, 3) := by decide +kernel
theorem dX4_countGood_39 : decode cX4_countGood 39 = .ok (.goto (-35), 3) := by decide +kernel
theorem dX4_countGood_42 : decode cX4_countGood 42 = .ok (.iload_n 1, 1) := by decide +kernel
theorem dX4_countGood_43 : decode cX4_countGood 43 = .ok (.ireturn, 1) := by decide +kernel
theorem dX4_nearestGoodHolder_0 : decode cX4_nearestGoodHolder 0 = .ok (.aconst_null, 1) := by decide +kernel
theorem dX4_nearestGoodHolder_1 : decode cX4_nearestGoodHolder 1 = .ok (.astore_n 2, 1) := by decide +kernel
theorem dX4_nearestGoodHolder_2 : decode cX4_nearestGoodHolder 2 = .ok (.iconst 0, 1) := by decide +kernel
theorem dX4_nearestGoodHolder_3 : decode cX4_nearestGoodHolder 3 = .ok (.istore_n 3, 1) := by decide +kernel
theorem dX4_nearestGoodHolder_4 : decode cX4_nearestGoodHolder 4 = .ok (.iload_n 3, 1) := by decide +kernel
theorem dX4_nearestGoodHolder_5 : decode cX4_nearestGoodHolder 5 = .ok (.aload_n 0, 1) := by decide +kernel
theorem dX4_nearestGoodHolder_6 : decode cX4_nearestGoodHolder 6 = .ok (.getfield 184, 3) := by decide +kernel
theorem dX4_nearestGoodHolder_9 : decode cX4_nearestGoodHolder 9 = .ok (.invokevirtual 44, 3) := by decide +kernel
theorem dX4_nearestGoodHolder_12 : decode cX4_nearestGoodHolder 12 = .ok (.if_icmp .ge 53, 3) := by decide +kernel
theorem dX4_nearestGoodHolder_15 : decode cX4_nearestGoodHolder 15 = .ok (.aload_n 0, 1) := by decide +kernel
theorem dX4_nearestGoodHolder_16 : decode cX4_nearestGoodHolder 16 = .ok (.getfield 184, 3) := by decide +kernel
theorem dX4_nearestGoodHolder_19 : decode cX4_nearestGoodHolder 19 = .ok (.iload_n 3, 1) := by decide +kernel
theorem dX4_nearestGoodHolder_20 : decode cX4_nearestGoodHolder 20 = .ok (.invokevirtual 127, 3) := by decide +kernel
theorem dX4_nearestGoodHolder_23 : decode cX4_nearestGoodHolder 23 = .ok (.checkcast 53, 3) := by decide +kernel
theorem dX4_nearestGoodHolder_26 : decode cX4_nearestGoodHolder 26 = .ok (.astore 4, 2) := by decide +kernel
theorem dX4_nearestGoodHolder_28 : decode cX4_nearestGoodHolder 28 = .ok (.aload 4, 2) := by decide +kernel
theorem dX4_nearestGoodHolder_30 : decode cX4_nearestGoodHolder 30 = .ok (.aload_n 0, 1) := by decide +kernel
theorem dX4_nearestGoodHolder_31 : decode cX4_nearestGoodHolder 31 = .ok (.invokestatic 257, 3) := by decide +kernel
theorem dX4_nearestGoodHolder_34 : decode cX4_nearestGoodHolder 34 = .ok (.ifCond .ne 6, 3) := by decide +kernel
theorem dX4_nearestGoodHolder_37 : decode cX4_nearestGoodHolder 37 = .ok (.goto 22, 3) := by decide +kernel
theorem dX4_nearestGoodHolder_40 : decode cX4_nearestGoodHolder 40 = .ok (.aload 4, 2) := by decide +kernel
theorem dX4_nearestGoodHolder_42 : decode cX4_nearestGoodHolder 42 = .ok (.getfield 233, 3) := by decide +kernel
theorem dX4_nearestGoodHolder_45 : decode cX4_nearestGoodHolder 45 = .ok (.iload_n 1, 1) := by decide +kernel
theorem dX4_nearestGoodHolder_46 : decode cX4_nearestGoodHolder 46 = .ok (.if_icmp .ne 6, 3) := by decide +kernel
theorem dX4_nearestGoodHolder_49 : decode cX4_nearestGoodHolder 49 = .ok (.aload 4, 2) := by decide +kernel
theorem dX4_nearestGoodHolder_51 : decode cX4_nearestGoodHolder 51 = .ok (.areturn, 1) := by decide +kernel
theorem dX4_nearestGoodHolder_52 : decode cX4_nearestGoodHolder 52 = .ok (.aload_n 2, 1) := by decide +kernel
theorem dX4_nearestGoodHolder_53 : decode cX4_nearestGoodHolder 53 = .ok (.ifnonnull 6, 3) := by decide +kernel
theorem dX4_nearestGoodHolder_56 : decode cX4_nearestGoodHolder 56 = .ok (.aload 4, 2) := by decide +kernel
theorem dX4_nearestGoodHolder_58 : decode cX4_nearestGoodHolder 58 = .ok (.astore_n 2, 1) := by decide +kernel
theorem dX4_nearestGoodHolder_59 : decode cX4_nearestGoodHolder 59 = .ok (.iinc 3 1, 3) := by decide +kernel
theorem dX4_nearestGoodHolder_62 : decode cX4_nearestGoodHolder 62 = .ok (.goto (-58), 3) := by decide +kernel
theorem dX4_nearestGoodHolder_65 : decode cX4_nearestGoodHolder 65 = .ok (.aload_n 2, 1) := by decide +kernel
theorem dX4_nearestGoodHolder_66 : decode cX4_nearestGoodHolder 66 = .ok (.areturn, 1) := by decide +kernel
theorem dX4_firstSoundCopy_0 : decode cX4_firstSoundCopy 0 = .ok (.iconst 0, 1) := by decide +kernel
theorem dX4_firstSoundCopy_1 : decode cX4_firstSoundCopy 1 = .ok (.istore_n 1, 1) := by decide +kernel
theorem dX4_firstSoundCopy_2 : decode cX4_firstSoundCopy 2 = .ok (.iload_n 1, 1) := by decide +kernel
theorem dX4_firstSoundCopy_3 : decode cX4_firstSoundCopy 3 = .ok (.aload_n 0, 1) := by decide +kernel
theorem dX4_firstSoundCopy_4 : decode cX4_firstSoundCopy 4 = .ok (.getfield 184, 3) := by decide +kernel
theorem dX4_firstSoundCopy_7 : decode cX4_firstSoundCopy 7 = .ok (.invokevirtual 44, 3) := by decide +kernel
theorem dX4_firstSoundCopy_10 : decode cX4_firstSoundCopy 10 = .ok (.if_icmp .ge 48, 3) := by decide +kernel
theorem dX4_firstSoundCopy_13 : decode cX4_firstSoundCopy 13 = .ok (.aload_n 0, 1) := by decide +kernel
theorem dX4_firstSoundCopy_14 : decode cX4_firstSoundCopy 14 = .ok (.getfield 184, 3) := by decide +kernel
theorem dX4_firstSoundCopy_17 : decode cX4_firstSoundCopy 17 = .ok (.iload_n 1, 1) := by decide +kernel
theorem dX4_firstSoundCopy_18 : decode cX4_firstSoundCopy 18 = .ok (.invokevirtual 127, 3) := by decide +kernel
theorem dX4_firstSoundCopy_21 : decode cX4_firstSoundCopy 21 = .ok (.checkcast 53, 3) := by decide +kernel
theorem dX4_firstSoundCopy_24 : decode cX4_firstSoundCopy 24 = .ok (.astore_n 2, 1) := by decide +kernel
theorem dX4_firstSoundCopy_25 : decode cX4_firstSoundCopy 25 = .ok (.aload_n 2, 1) := by decide +kernel
theorem dX4_firstSoundCopy_26 : decode cX4_firstSoundCopy 26 = .ok (.aload_n 0, 1) := by decide +kernel
theorem dX4_firstSoundCopy_27 : decode cX4_firstSoundCopy 27 = .ok (.invokevirtual 82, 3) := by decide +kernel
theorem dX4_firstSoundCopy_30 : decode cX4_firstSoundCopy 30 = .ok (.astore_n 3, 1) := by decide +kernel
theorem dX4_firstSoundCopy_31 : decode cX4_firstSoundCopy 31 = .ok (.aload_n 3, 1) := by decide +kernel
theorem dX4_firstSoundCopy_32 : decode cX4_firstSoundCopy 32 = .ok (.ifnull 20, 3) := by decide +kernel
theorem dX4_firstSoundCopy_35 : decode cX4_firstSoundCopy 35 = .ok (.aload_n 3, 1) := by decide +kernel
theorem dX4_firstSoundCopy_36 : decode cX4_firstSoundCopy 36 = .ok (.getfield 214, 3) := by decide +kernel
theorem dX4_firstSoundCopy_39 : decode cX4_firstSoundCopy 39 = .ok (.ifCond .ne 13, 3) := by decide +kernel
theorem dX4_firstSoundCopy_42 : decode cX4_firstSoundCopy 42 = .ok (.aload_n 2, 1) := by decide +kernel
theorem dX4_firstSoundCopy_43 : decode cX4_firstSoundCopy 43 = .ok (.aload_n 0, 1) := by decide +kernel
theorem dX4_firstSoundCopy_44 : decode cX4_firstSoundCopy 44 = .ok (.invokestatic 257, 3) := by decide +kernel
theorem dX4_firstSoundCopy_47 : decode cX4_firstSoundCopy 47 = .ok (.ifCond .eq 5, 3) := by decide +kernel
theorem dX4_firstSoundCopy_50 : decode cX4_firstSoundCopy 50 = .ok (.aload_n 3, 1) := by decide +kernel
theorem dX4_firstSoundCopy_51 : decode cX4_firstSoundCopy 51 = .ok (.areturn, 1) := by decide +kernel
theorem dX4_firstSoundCopy_52 : decode cX4_firstSoundCopy 52 = .ok (.iinc 1 1, 3) := by decide +kernel
theorem dX4_firstSoundCopy_55 : decode cX4_firstSoundCopy 55 = .ok (.goto (-53), 3) := by decide +kernel
theorem dX4_firstSoundCopy_58 : decode cX4_firstSoundCopy 58 = .ok (.aconst_null, 1) := by decide +kernel
theorem dX4_firstSoundCopy_59 : decode cX4_firstSoundCopy 59 = .ok (.areturn, 1) := by decide +kernel
theorem dX4_bestPlace_0 : decode cX4_bestPlace 0 = .ok (.aconst_null, 1) := by decide +kernel
theorem dX4_bestPlace_1 : decode cX4_bestPlace 1 = .ok (.astore_n 2, 1) := by decide +kernel
theorem dX4_bestPlace_2 : decode cX4_bestPlace 2 = .ok (.iconst 0, 1) := by decide +kernel
theorem dX4_bestPlace_3 : decode cX4_bestPlace 3 = .ok (.istore_n 3, 1) := by decide +kernel
theorem dX4_bestPlace_4 : decode cX4_bestPlace 4 = .ok (.iload_n 3, 1) := by decide +kernel
theorem dX4_bestPlace_5 : decode cX4_bestPlace 5 = .ok (.aload_n 0, 1) := by decide +kernel
theorem dX4_bestPlace_6 : decode cX4_bestPlace 6 = .ok (.getfield 10, 3) := by decide +kernel
theorem dX4_bestPlace_9 : decode cX4_bestPlace 9 = .ok (.invokevirtual 44, 3) := by decide +kernel
theorem dX4_bestPlace_12 : decode cX4_bestPlace 12 = .ok (.if_icmp .ge 84, 3) := by decide +kernel
theorem dX4_bestPlace_15 : decode cX4_bestPlace 15 = .ok (.aload_n 0, 1) := by decide +kernel
theorem dX4_bestPlace_16 : decode cX4_bestPlace 16 = .ok (.getfield 10, 3) := by decide +kernel
theorem dX4_bestPlace_19 : decode cX4_bestPlace 19 = .ok (.iload_n 3, 1) := by decide +kernel
theorem dX4_bestPlace_20 : decode cX4_bestPlace 20 = .ok (.invokevirtual 127, 3) := by decide +kernel
theorem dX4_bestPlace_23 : decode cX4_bestPlace 23 = .ok (.checkcast 53, 3) := by decide +kernel
theorem dX4_bestPlace_26 : decode cX4_bestPlace 26 = .ok (.astore 4, 2) := by decide +kernel
theorem dX4_bestPlace_28 : decode cX4_bestPlace 28 = .ok (.aload 4, 2) := by decide +kernel
theorem dX4_bestPlace_30 : decode cX4_bestPlace 30 = .ok (.getfield 220, 3) := by decide +kernel
theorem dX4_bestPlace_33 : decode cX4_bestPlace 33 = .ok (.ifCond .eq 32, 3) := by decide +kernel
theorem dX4_bestPlace_36 : decode cX4_bestPlace 36 = .ok (.aload 4, 2) := by decide +kernel
theorem dX4_bestPlace_38 : decode cX4_bestPlace 38 = .ok (.getfield 69, 3) := by decide +kernel
theorem dX4_bestPlace_41 : decode cX4_bestPlace 41 = .ok (.ifCond .eq 24, 3) := by decide +kernel
theorem dX4_bestPlace_44 : decode cX4_bestPlace 44 = .ok (.aload 4, 2) := by decide +kernel
theorem dX4_bestPlace_46 : decode cX4_bestPlace 46 = .ok (.invokevirtual 261, 3) := by decide +kernel
theorem dX4_bestPlace_49 : decode cX4_bestPlace 49 = .ok (.ifCond .eq 16, 3) := by decide +kernel
theorem dX4_bestPlace_52 : decode cX4_bestPlace 52 = .ok (.aload 4, 2) := by decide +kernel
theorem dX4_bestPlace_54 : decode cX4_bestPlace 54 = .ok (.aload_n 1, 1) := by decide +kernel
theorem dX4_bestPlace_55 : decode cX4_bestPlace 55 = .ok (.invokevirtual 264, 3) := by decide +kernel
theorem dX4_bestPlace_58 : decode cX4_bestPlace 58 = .ok (.ifCond .ne 7, 3) := by decide +kernel
theorem dX4_bestPlace_61 : decode cX4_bestPlace 61 = .ok (.iconst 1, 1) := by decide +kernel
theorem dX4_bestPlace_62 : decode cX4_bestPlace 62 = .ok (.goto 4, 3) := by decide +kernel
theorem dX4_bestPlace_65 : decode cX4_bestPlace 65 = .ok (.iconst 0, 1) := by decide +kernel
theorem dX4_bestPlace_66 : decode cX4_bestPlace 66 = .ok (.istore 5, 2) := by decide +kernel
theorem dX4_bestPlace_68 : decode cX4_bestPlace 68 = .ok (.iload 5, 2) := by decide +kernel
theorem dX4_bestPlace_70 : decode cX4_bestPlace 70 = .ok (.ifCond .eq 20, 3) := by decide +kernel
theorem dX4_bestPlace_73 : decode cX4_bestPlace 73 = .ok (.aload_n 2, 1) := by decide +kernel
theorem dX4_bestPlace_74 : decode cX4_bestPlace 74 = .ok (.ifnull 13, 3) := by decide +kernel
theorem dX4_bestPlace_77 : decode cX4_bestPlace 77 = .ok (.aload_n 1, 1) := by decide +kernel
theorem dX4_bestPlace_78 : decode cX4_bestPlace 78 = .ok (.aload 4, 2) := by decide +kernel
theorem dX4_bestPlace_80 : decode cX4_bestPlace 80 = .ok (.aload_n 2, 1) := by decide +kernel
theorem dX4_bestPlace_81 : decode cX4_bestPlace 81 = .ok (.invokestatic 267, 3) := by decide +kernel
theorem dX4_bestPlace_84 : decode cX4_bestPlace 84 = .ok (.ifCond .eq 6, 3) := by decide +kernel
theorem dX4_bestPlace_87 : decode cX4_bestPlace 87 = .ok (.aload 4, 2) := by decide +kernel
theorem dX4_bestPlace_89 : decode cX4_bestPlace 89 = .ok (.astore_n 2, 1) := by decide +kernel
theorem dX4_bestPlace_90 : decode cX4_bestPlace 90 = .ok (.iinc 3 1, 3) := by decide +kernel
theorem dX4_bestPlace_93 : decode cX4_bestPlace 93 = .ok (.goto (-89), 3) := by decide +kernel
theorem dX4_bestPlace_96 : decode cX4_bestPlace 96 = .ok (.aload_n 2, 1) := by decide +kernel
theorem dX4_bestPlace_97 : decode cX4_bestPlace 97 = .ok (.areturn, 1) := by decide +kernel
theorem dX4_isBetterPlace_0 : decode cX4_isBetterPlace 0 = .ok (.aload_n 0, 1) := by decide +kernel
theorem dX4_isBetterPlace_1 : decode cX4_isBetterPlace 1 = .ok (.aload_n 1, 1) := by decide +kernel
theorem dX4_isBetterPlace_2 : decode cX4_isBetterPlace 2 = .ok (.getfield 233, 3) := by decide +kernel
theorem dX4_isBetterPlace_5 : decode cX4_isBetterPlace 5 = .ok (.invokevirtual 236, 3) := by decide +kernel
theorem dX4_isBetterPlace_8 : decode cX4_isBetterPlace 8 = .ok (.istore_n 3, 1) := by decide +kernel
theorem dX4_isBetterPlace_9 : decode cX4_isBetterPlace 9 = .ok (.aload_n 0, 1) := by decide +kernel
theorem dX4_isBetterPlace_10 : decode cX4_isBetterPlace 10 = .ok (.aload_n 2, 1) := by decide +kernel
theorem dX4_isBetterPlace_11 : decode cX4_isBetterPlace 11 = .ok (.getfield 233, 3) := by decide +kernel
theorem dX4_isBetterPlace_14 : decode cX4_isBetterPlace 14 = .ok (.invokevirtual 236, 3) := by decide +kernel
theorem dX4_isBetterPlace_17 : decode cX4_isBetterPlace 17 = .ok (.istore 4, 2) := by decide +kernel
theorem dX4_isBetterPlace_19 : decode cX4_isBetterPlace 19 = .ok (.iload_n 3, 1) := by decide +kernel
theorem dX4_isBetterPlace_20 : decode cX4_isBetterPlace 20 = .ok (.iload 4, 2) := by decide +kernel
theorem dX4_isBetterPlace_22 : decode cX4_isBetterPlace 22 = .ok (.if_icmp .eq 17, 3) := by decide +kernel
theorem dX4_isBetterPlace_25 : decode cX4_isBetterPlace 25 = .ok (.iload_n 3, 1) := by decide +kernel
theorem dX4_isBetterPlace_26 : decode cX4_isBetterPlace 26 = .ok (.iload 4, 2) := by decide +kernel
theorem dX4_isBetterPlace_28 : decode cX4_isBetterPlace 28 = .ok (.if_icmp .ge 7, 3) := by decide +kernel
theorem dX4_isBetterPlace_31 : decode cX4_isBetterPlace 31 = .ok (.iconst 1, 1) := by decide +kernel
theorem dX4_isBetterPlace_32 : decode cX4_isBetterPlace 32 = .ok (.goto 23, 3) := by decide +kernel
theorem dX4_isBetterPlace_35 : decode cX4_isBetterPlace 35 = .ok (.iconst 0, 1) := by decide +kernel
theorem dX4_isBetterPlace_36 : decode cX4_isBetterPlace 36 = .ok (.goto 19, 3) := by decide +kernel
theorem dX4_isBetterPlace_39 : decode cX4_isBetterPlace 39 = .ok (.aload_n 1, 1) := by decide +kernel
theorem dX4_isBetterPlace_40 : decode cX4_isBetterPlace 40 = .ok (.getfield 217, 3) := by decide +kernel
theorem dX4_isBetterPlace_43 : decode cX4_isBetterPlace 43 = .ok (.aload_n 2, 1) := by decide +kernel
theorem dX4_isBetterPlace_44 : decode cX4_isBetterPlace 44 = .ok (.getfield 217, 3) := by decide +kernel
theorem dX4_isBetterPlace_47 : decode cX4_isBetterPlace 47 = .ok (.if_icmp .ge 7, 3) := by decide +kernel
theorem dX4_isBetterPlace_50 : decode cX4_isBetterPlace 50 = .ok (.iconst 1, 1) := by decide +kernel
theorem dX4_isBetterPlace_51 : decode cX4_isBetterPlace 51 = .ok (.goto 4, 3) := by decide +kernel
theorem dX4_isBetterPlace_54 : decode cX4_isBetterPlace 54 = .ok (.iconst 0, 1) := by decide +kernel
theorem dX4_isBetterPlace_55 : decode cX4_isBetterPlace 55 = .ok (.ireturn, 1) := by decide +kernel
theorem dX4_addCopy_0 : decode cX4_addCopy 0 = .ok (.aload_n 0, 1) := by decide +kernel
theorem dX4_addCopy_1 : decode cX4_addCopy 1 = .ok (.aload_n 1, 1) := by decide +kernel
theorem dX4_addCopy_2 : decode cX4_addCopy 2 = .ok (.invokevirtual 271, 3) := by decide +kernel
theorem dX4_addCopy_5 : decode cX4_addCopy 5 = .ok (.astore_n 3, 1) := by decide +kernel
theorem dX4_addCopy_6 : decode cX4_addCopy 6 = .ok (.aload_n 3, 1) := by decide +kernel
theorem dX4_addCopy_7 : decode cX4_addCopy 7 = .ok (.ifnonnull 4, 3) := by decide +kernel
theorem dX4_addCopy_10 : decode cX4_addCopy 10 = .ok (.return_, 1) := by decide +kernel
theorem dX4_addCopy_11 : decode cX4_addCopy 11 = .ok (.aload_n 2, 1) := by decide +kernel
theorem dX4_addCopy_12 : decode cX4_addCopy 12 = .ok (.ifnull 8, 3) := by decide +kernel
theorem dX4_addCopy_15 : decode cX4_addCopy 15 = .ok (.aload_n 3, 1) := by decide +kernel
theorem dX4_addCopy_16 : decode cX4_addCopy 16 = .ok (.aload_n 2, 1) := by decide +kernel
theorem dX4_addCopy_17 : decode cX4_addCopy 17 = .ok (.invokevirtual 274, 3) := by decide +kernel
theorem dX4_addCopy_20 : decode cX4_addCopy 20 = .ok (.aload_n 1, 1) := by decide +kernel
theorem dX4_addCopy_21 : decode cX4_addCopy 21 = .ok (.getfield 184, 3) := by decide +kernel
theorem dX4_addCopy_24 : decode cX4_addCopy 24 = .ok (.aload_n 0, 1) := by decide +kernel
theorem dX4_addCopy_25 : decode cX4_addCopy 25 = .ok (.invokevirtual 58, 3) := by decide +kernel
theorem dX4_addCopy_28 : decode cX4_addCopy 28 = .ok (.pop, 1) := by decide +kernel
theorem dX4_addCopy_29 : decode cX4_addCopy 29 = .ok (.return_, 1) := by decide +kernel
theorem dX4_drop_0 : decode cX4_drop 0 = .ok (.aload_n 1, 1) := by decide +kernel
theorem dX4_drop_1 : decode cX4_drop 1 = .ok (.getfield 278, 3) := by decide +kernel
theorem dX4_drop_4 : decode cX4_drop 4 = .ok (.astore_n 2, 1) := by decide +kernel
theorem dX4_drop_5 : decode cX4_drop 5 = .ok (.aload_n 0, 1) := by decide +kernel
theorem dX4_drop_6 : decode cX4_drop 6 = .ok (.aload_n 1, 1) := by decide +kernel
theorem dX4_drop_7 : decode cX4_drop 7 = .ok (.invokevirtual 282, 3) := by decide +kernel
theorem dX4_drop_10 : decode cX4_drop 10 = .ok (.aload_n 2, 1) := by decide +kernel
theorem dX4_drop_11 : decode cX4_drop 11 = .ok (.ifnull 8, 3) := by decide +kernel
theorem dX4_drop_14 : decode cX4_drop 14 = .ok (.aload_n 2, 1) := by decide +kernel
theorem dX4_drop_15 : decode cX4_drop 15 = .ok (.aload_n 0, 1) := by decide +kernel
theorem dX4_drop_16 : decode cX4_drop 16 = .ok (.invokevirtual 285, 3) := by decide +kernel
theorem dX4_drop_19 : decode cX4_drop 19 = .ok (.return_, 1) := by decide +kernel
theorem dX4_addFile_0 : decode cX4_addFile 0 = .ok (.aload_n 0, 1) := by decide +kernel
theorem dX4_addFile_1 : decode cX4_addFile 1 = .ok (.getfield 19, 3) := by decide +kernel
theorem dX4_addFile_4 : decode cX4_addFile 4 = .ok (.invokevirtual 44, 3) := by decide +kernel
theorem dX4_addFile_7 : decode cX4_addFile 7 = .ok (.bipush 20, 2) := by decide +kernel
theorem dX4_addFile_9 : decode cX4_addFile 9 = .ok (.if_icmp .lt 14, 3) := by decide +kernel
theorem dX4_addFile_12 : decode cX4_addFile 12 = .ok (.new 48, 3) := by decide +kernel
theorem dX4_addFile_15 : decode cX4_addFile 15 = .ok (.dup, 1) := by decide +kernel
theorem dX4_addFile_16 : decode cX4_addFile 16 = .ok (.ldc_w 289, 3) := by decide +kernel
theorem dX4_addFile_19 : decode cX4_addFile 19 = .ok (.invokespecial 52, 3) := by decide +kernel
theorem dX4_addFile_22 : decode cX4_addFile 22 = .ok (.athrow, 1) := by decide +kernel
theorem dX4_addFile_23 : decode cX4_addFile 23 = .ok (.new 114, 3) := by decide +kernel
theorem dX4_addFile_26 : decode cX4_addFile 26 = .ok (.dup, 1) := by decide +kernel
theorem dX4_addFile_27 : decode cX4_addFile 27 = .ok (.aload_n 0, 1) := by decide +kernel
theorem dX4_addFile_28 : decode cX4_addFile 28 = .ok (.getfield 19, 3) := by decide +kernel
theorem dX4_addFile_31 : decode cX4_addFile 31 = .ok (.invokevirtual 44, 3) := by decide +kernel
theorem dX4_addFile_34 : decode cX4_addFile 34 = .ok (.invokespecial 291, 3) := by decide +kernel
theorem dX4_addFile_37 : decode cX4_addFile 37 = .ok (.astore_n 1, 1) := by decide +kernel
theorem dX4_addFile_38 : decode cX4_addFile 38 = .ok (.aload_n 0, 1) := by decide +kernel
theorem dX4_addFile_39 : decode cX4_addFile 39 = .ok (.getfield 19, 3) := by decide +kernel
theorem dX4_addFile_42 : decode cX4_addFile 42 = .ok (.aload_n 1, 1) := by decide +kernel
theorem dX4_addFile_43 : decode cX4_addFile 43 = .ok (.invokevirtual 58, 3) := by decide +kernel
theorem dX4_addFile_46 : decode cX4_addFile 46 = .ok (.pop, 1) := by decide +kernel
theorem dX4_addFile_47 : decode cX4_addFile 47 = .ok (.aload_n 1, 1) := by decide +kernel
theorem dX4_addFile_48 : decode cX4_addFile 48 = .ok (.areturn, 1) := by decide +kernel
theorem dX4_endOfLastPiece_0 : decode cX4_endOfLastPiece 0 = .ok (.aload_n 1, 1) := by decide +kernel
theorem dX4_endOfLastPiece_1 : decode cX4_endOfLastPiece 1 = .ok (.getfield 124, 3) := by decide +kernel
theorem dX4_endOfLastPiece_4 : decode cX4_endOfLastPiece 4 = .ok (.invokevirtual 44, 3) := by decide +kernel
theorem dX4_endOfLastPiece_7 : decode cX4_endOfLastPiece 7 = .ok (.istore_n 2, 1) := by decide +kernel
theorem dX4_endOfLastPiece_8 : decode cX4_endOfLastPiece 8 = .ok (.iload_n 2, 1) := by decide +kernel
theorem dX4_endOfLastPiece_9 : decode cX4_endOfLastPiece 9 = .ok (.ifCond .ne 7, 3) := by decide +kernel
theorem dX4_endOfLastPiece_12 : decode cX4_endOfLastPiece 12 = .ok (.iconst 4, 1) := by decide +kernel
theorem dX4_endOfLastPiece_13 : decode cX4_endOfLastPiece 13 = .ok (.goto 20, 3) := by decide +kernel
theorem dX4_endOfLastPiece_16 : decode cX4_endOfLastPiece 16 = .ok (.aload_n 0, 1) := by decide +kernel
theorem dX4_endOfLastPiece_17 : decode cX4_endOfLastPiece 17 = .ok (.aload_n 1, 1) := by decide +kernel
theorem dX4_endOfLastPiece_18 : decode cX4_endOfLastPiece 18 = .ok (.getfield 124, 3) := by decide +kernel
theorem dX4_endOfLastPiece_21 : decode cX4_endOfLastPiece 21 = .ok (.iload_n 2, 1) := by decide +kernel
theorem dX4_endOfLastPiece_22 : decode cX4_endOfLastPiece 22 = .ok (.iconst 1, 1) := by decide +kernel
theorem dX4_endOfLastPiece_23 : decode cX4_endOfLastPiece 23 = .ok (.isub, 1) := by decide +kernel
theorem dX4_endOfLastPiece_24 : decode cX4_endOfLastPiece 24 = .ok (.invokevirtual 127, 3) := by decide +kernel
theorem dX4_endOfLastPiece_27 : decode cX4_endOfLastPiece 27 = .ok (.checkcast 131, 3) := by decide +kernel
theorem dX4_endOfLastPiece_30 : decode cX4_endOfLastPiece 30 = .ok (.invokevirtual 162, 3) := by decide +kernel
theorem dX4_endOfLastPiece_33 : decode cX4_endOfLastPiece 33 = .ok (.ireturn, 1) := by decide +kernel
theorem dX4_primaryLength_0 : decode cX4_primaryLength 0 = .ok (.aload_n 0, 1) := by decide +kernel
theorem dX4_primaryLength_1 : decode cX4_primaryLength 1 = .ok (.aload_n 1, 1) := by decide +kernel
theorem dX4_primaryLength_2 : decode cX4_primaryLength 2 = .ok (.invokevirtual 293, 3) := by decide +kernel
theorem dX4_primaryLength_5 : decode cX4_primaryLength 5 = .ok (.ifCond .eq 10, 3) := by decide +kernel
theorem dX4_primaryLength_8 : decode cX4_primaryLength 8 = .ok (.aload_n 1, 1) := by decide +kernel
theorem dX4_primaryLength_9 : decode cX4_primaryLength 9 = .ok (.getfield 190, 3) := by decide +kernel
theorem dX4_primaryLength_12 : decode cX4_primaryLength 12 = .ok (.goto 7, 3) := by decide +kernel
theorem dX4_primaryLength_15 : decode cX4_primaryLength 15 = .ok (.aload_n 1, 1) := by decide +kernel
theorem dX4_primaryLength_16 : decode cX4_primaryLength 16 = .ok (.invokestatic 296, 3) := by decide +kernel
theorem dX4_primaryLength_19 : decode cX4_primaryLength 19 = .ok (.astore_n 2, 1) := by decide +kernel
theorem dX4_primaryLength_20 : decode cX4_primaryLength 20 = .ok (.aload_n 2, 1) := by decide +kernel
theorem dX4_primaryLength_21 : decode cX4_primaryLength 21 = .ok (.ifnonnull 7, 3) := by decide +kernel
theorem dX4_primaryLength_24 : decode cX4_primaryLength 24 = .ok (.aconst_null, 1) := by decide +kernel
theorem dX4_primaryLength_25 : decode cX4_primaryLength 25 = .ok (.goto 8, 3) := by decide +kernel
theorem dX4_primaryLength_28 : decode cX4_primaryLength 28 = .ok (.aload_n 2, 1) := by decide +kernel
theorem dX4_primaryLength_29 : decode cX4_primaryLength 29 = .ok (.aload_n 1, 1) := by decide +kernel
theorem dX4_primaryLength_30 : decode cX4_primaryLength 30 = .ok (.invokevirtual 82, 3) := by decide +kernel
theorem dX4_primaryLength_33 : decode cX4_primaryLength 33 = .ok (.astore_n 3, 1) := by decide +kernel
theorem dX4_primaryLength_34 : decode cX4_primaryLength 34 = .ok (.aload_n 3, 1) := by decide +kernel
theorem dX4_primaryLength_35 : decode cX4_primaryLength 35 = .ok (.ifnonnull 14, 3) := by decide +kernel
theorem dX4_primaryLength_38 : decode cX4_primaryLength 38 = .ok (.new 48, 3) := by decide +kernel
theorem dX4_primaryLength_41 : decode cX4_primaryLength 41 = .ok (.dup, 1) := by decide +kernel
theorem dX4_primaryLength_42 : decode cX4_primaryLength 42 = .ok (.ldc_w 300, 3) := by decide +kernel
theorem dX4_primaryLength_45 : decode cX4_primaryLength 45 = .ok (.invokespecial 52, 3) := by decide +kernel
theorem dX4_primaryLength_48 : decode cX4_primaryLength 48 = .ok (.athrow, 1) := by decide +kernel
theorem dX4_primaryLength_49 : decode cX4_primaryLength 49 = .ok (.aload_n 3, 1) := by decide +kernel
theorem dX4_primaryLength_50 : decode cX4_primaryLength 50 = .ok (.getfield 211, 3) := by decide +kernel
theorem dX4_primaryLength_53 : decode cX4_primaryLength 53 = .ok (.ireturn, 1) := by decide +kernel
theorem dX4_firstUpHolder_0 : decode cX4_firstUpHolder 0 = .ok (.iconst 0, 1) := by decide +kernel
theorem dX4_firstUpHolder_1 : decode cX4_firstUpHolder 1 = .ok (.istore_n 1, 1) := by decide +kernel
theorem dX4_firstUpHolder_2 : decode cX4_firstUpHolder 2 = .ok (.iload_n 1, 1) := by decide +kernel
theorem dX4_firstUpHolder_3 : decode cX4_firstUpHolder 3 = .ok (.aload_n 0, 1) := by decide +kernel
theorem dX4_firstUpHolder_4 : decode cX4_firstUpHolder 4 = .ok (.getfield 184, 3) := by decide +kernel
theorem dX4_firstUpHolder_7 : decode cX4_firstUpHolder 7 = .ok (.invokevirtual 44, 3) := by decide +kernel
theorem dX4_firstUpHolder_10 : decode cX4_firstUpHolder 10 = .ok (.if_icmp .ge 38, 3) := by decide +kernel
theorem dX4_firstUpHolder_13 : decode cX4_firstUpHolder 13 = .ok (.aload_n 0, 1) := by decide +kernel
theorem dX4_firstUpHolder_14 : decode cX4_firstUpHolder 14 = .ok (.getfield 184, 3) := by decide +kernel
theorem dX4_firstUpHolder_17 : decode cX4_firstUpHolder 17 = .ok (.iload_n 1, 1) := by decide +kernel
theorem dX4_firstUpHolder_18 : decode cX4_firstUpHolder 18 = .ok (.invokevirtual 127, 3) := by decide +kernel
theorem dX4_firstUpHolder_21 : decode cX4_firstUpHolder 21 = .ok (.checkcast 53, 3) := by decide +kernel
theorem dX4_firstUpHolder_24 : decode cX4_firstUpHolder 24 = .ok (.getfield 69, 3) := by decide +kernel
theorem dX4_firstUpHolder_27 : decode cX4_firstUpHolder 27 = .ok (.ifCond .eq 15, 3) := by decide +kernel
theorem dX4_firstUpHolder_30 : decode cX4_firstUpHolder 30 = .ok (.aload_n 0, 1) := by decide +kernel
theorem dX4_firstUpHolder_31 : decode cX4_firstUpHolder 31 = .ok (.getfield 184, 3) := by decide +kernel
theorem dX4_firstUpHolder_34 : decode cX4_firstUpHolder 34 = .ok (.iload_n 1, 1) := by decide +kernel
theorem dX4_firstUpHolder_35 : decode cX4_firstUpHolder 35 = .ok (.invokevirtual 127, 3) := by decide +kernel
theorem dX4_firstUpHolder_38 : decode cX4_firstUpHolder 38 = .ok (.checkcast 53, 3) := by decide +kernel
theorem dX4_firstUpHolder_41 : decode cX4_firstUpHolder 41 = .ok (.areturn, 1) := by decide +kernel
theorem dX4_firstUpHolder_42 : decode cX4_firstUpHolder 42 = .ok (.iinc 1 1, 3) := by decide +kernel
theorem dX4_firstUpHolder_45 : decode cX4_firstUpHolder 45 = .ok (.goto (-43), 3) := by decide +kernel
theorem dX4_firstUpHolder_48 : decode cX4_firstUpHolder 48 = .ok (.aconst_null, 1) := by decide +kernel
theorem dX4_firstUpHolder_49 : decode cX4_firstUpHolder 49 = .ok (.areturn, 1) := by decide +kernel
theorem dX4_isLeased_0 : decode cX4_isLeased 0 = .ok (.aload_n 1, 1) := by decide +kernel
theorem dX4_isLeased_1 : decode cX4_isLeased 1 = .ok (.getfield 190, 3) := by decide +kernel
theorem dX4_isLeased_4 : decode cX4_isLeased 4 = .ok (.ifnull 18, 3) := by decide +kernel
theorem dX4_isLeased_7 : decode cX4_isLeased 7 = .ok (.aload_n 0, 1) := by decide +kernel
theorem dX4_isLeased_8 : decode cX4_isLeased 8 = .ok (.getfield 22, 3) := by decide +kernel
theorem dX4_isLeased_11 : decode cX4_isLeased 11 = .ok (.aload_n 1, 1) := by decide +kernel
theorem dX4_isLeased_12 : decode cX4_isLeased 12 = .ok (.getfield 198, 3) := by decide +kernel
theorem dX4_isLeased_15 : decode cX4_isLeased 15 = .ok (.if_icmp .ge 7, 3) := by decide +kernel
theorem dX4_isLeased_18 : decode cX4_isLeased 18 = .ok (.iconst 1, 1) := by decide +kernel
theorem dX4_isLeased_19 : decode cX4_isLeased 19 = .ok (.goto 4, 3) := by decide +kernel
theorem dX4_isLeased_22 : decode cX4_isLeased 22 = .ok (.iconst 0, 1) := by decide +kernel
theorem dX4_isLeased_23 : decode cX4_isLeased 23 = .ok (.ireturn, 1) := by decide +kernel
theorem dX4_isPrimaryUp_0 : decode cX4_isPrimaryUp 0 = .ok (.aload_n 1, 1) := by decide +kernel
theorem dX4_isPrimaryUp_1 : decode cX4_isPrimaryUp 1 = .ok (.getfield 190, 3) := by decide +kernel
theorem dX4_isPrimaryUp_4 : decode cX4_isPrimaryUp 4 = .ok (.ifnull 25, 3) := by decide +kernel
theorem dX4_isPrimaryUp_7 : decode cX4_isPrimaryUp 7 = .ok (.aload_n 0, 1) := by decide +kernel
theorem dX4_isPrimaryUp_8 : decode cX4_isPrimaryUp 8 = .ok (.aload_n 1, 1) := by decide +kernel
theorem dX4_isPrimaryUp_9 : decode cX4_isPrimaryUp 9 = .ok (.invokevirtual 194, 3) := by decide +kernel
theorem dX4_isPrimaryUp_12 : decode cX4_isPrimaryUp 12 = .ok (.ifCond .eq 17, 3) := by decide +kernel
theorem dX4_isPrimaryUp_15 : decode cX4_isPrimaryUp 15 = .ok (.aload_n 1, 1) := by decide +kernel
theorem dX4_isPrimaryUp_16 : decode cX4_isPrimaryUp 16 = .ok (.getfield 190, 3) := by decide +kernel
theorem dX4_isPrimaryUp_19 : decode cX4_isPrimaryUp 19 = .ok (.getfield 69, 3) := by decide +kernel
theorem dX4_isPrimaryUp_22 : decode cX4_isPrimaryUp 22 = .ok (.ifCond .eq 7, 3) := by decide +kernel
theorem dX4_isPrimaryUp_25 : decode cX4_isPrimaryUp 25 = .ok (.iconst 1, 1) := by decide +kernel
theorem dX4_isPrimaryUp_26 : decode cX4_isPrimaryUp 26 = .ok (.goto 4, 3) := by decide +kernel
theorem dX4_isPrimaryUp_29 : decode cX4_isPrimaryUp 29 = .ok (.iconst 0, 1) := by decide +kernel
theorem dX4_isPrimaryUp_30 : decode cX4_isPrimaryUp 30 = .ok (.ireturn, 1) := by decide +kernel
theorem dX4_startPiece_0 : decode cX4_startPiece 0 = .ok (.aload_n 1, 1) := by decide +kernel
theorem dX4_startPiece_1 : decode cX4_startPiece 1 = .ok (.getfield 124, 3) := by decide +kernel
theorem dX4_startPiece_4 : decode cX4_startPiece 4 = .ok (.invokevirtual 44, 3) := by decide +kernel
theorem dX4_startPiece_7 : decode cX4_startPiece 7 = .ok (.bipush 6, 2) := by decide +kernel
theorem dX4_startPiece_9 : decode cX4_startPiece 9 = .ok (.if_icmp .lt 14, 3) := by decide +kernel
theorem dX4_startPiece_12 : decode cX4_startPiece 12 = .ok (.new 48, 3) := by decide +kernel
theorem dX4_startPiece_15 : decode cX4_startPiece 15 = .ok (.dup, 1) := by decide +kernel
theorem dX4_startPiece_16 : decode cX4_startPiece 16 = .ok (.ldc_w 302, 3) := by decide +kernel
theorem dX4_startPiece_19 : decode cX4_startPiece 19 = .ok (.invokespecial 52, 3) := by decide +kernel
theorem dX4_startPiece_22 : decode cX4_startPiece 22 = .ok (.athrow, 1) := by decide +kernel
theorem dX4_startPiece_23 : decode cX4_startPiece 23 = .ok (.aload_n 0, 1) := by decide +kernel
theorem dX4_startPiece_24 : decode cX4_startPiece 24 = .ok (.invokevirtual 304, 3) := by decide +kernel
theorem dX4_startPiece_27 : decode cX4_startPiece 27 = .ok (.new 131, 3) := by decide +kernel
theorem dX4_startPiece_30 : decode cX4_startPiece 30 = .ok (.dup, 1) := by decide +kernel
theorem dX4_startPiece_31 : decode cX4_startPiece 31 = .ok (.aload_n 0, 1) := by decide +kernel
theorem dX4_startPiece_32 : decode cX4_startPiece 32 = .ok (.getfield 16, 3) := by decide +kernel
theorem dX4_startPiece_35 : decode cX4_startPiece 35 = .ok (.invokevirtual 44, 3) := by decide +kernel
theorem dX4_startPiece_38 : decode cX4_startPiece 38 = .ok (.invokespecial 307, 3) := by decide +kernel
theorem dX4_startPiece_41 : decode cX4_startPiece 41 = .ok (.astore_n 2, 1) := by decide +kernel
theorem dX4_startPiece_42 : decode cX4_startPiece 42 = .ok (.aload_n 0, 1) := by decide +kernel
theorem dX4_startPiece_43 : decode cX4_startPiece 43 = .ok (.aload_n 2, 1) := by decide +kernel
theorem dX4_startPiece_44 : decode cX4_startPiece 44 = .ok (.invokevirtual 308, 3) := by decide +kernel
theorem dX4_startPiece_47 : decode cX4_startPiece 47 = .ok (.astore_n 3, 1) := by decide +kernel
theorem dX4_startPiece_48 : decode cX4_startPiece 48 = .ok (.aload_n 3, 1) := by decide +kernel
theorem dX4_startPiece_49 : decode cX4_startPiece 49 = .ok (.ifnonnull 14, 3) := by decide +kernel
theorem dX4_startPiece_52 : decode cX4_startPiece 52 = .ok (.new 48, 3) := by decide +kernel
theorem dX4_startPiece_55 : decode cX4_startPiece 55 = .ok (.dup, 1) := by decide +kernel
theorem dX4_startPiece_56 : decode cX4_startPiece 56 = .ok (.ldc_w 311, 3) := by decide +kernel
theorem dX4_startPiece_59 : decode cX4_startPiece 59 = .ok (.invokespecial 52, 3) := by decide +kernel
theorem dX4_startPiece_62 : decode cX4_startPiece 62 = .ok (.athrow, 1) := by decide +kernel
theorem dX4_startPiece_63 : decode cX4_startPiece 63 = .ok (.aload_n 0, 1) := by decide +kernel
theorem dX4_startPiece_64 : decode cX4_startPiece 64 = .ok (.getfield 16, 3) := by decide +kernel
theorem dX4_startPiece_67 : decode cX4_startPiece 67 = .ok (.aload_n 2, 1) := by decide +kernel
theorem dX4_startPiece_68 : decode cX4_startPiece 68 = .ok (.invokevirtual 58, 3) := by decide +kernel
theorem dX4_startPiece_71 : decode cX4_startPiece 71 = .ok (.pop, 1) := by decide +kernel
theorem dX4_startPiece_72 : decode cX4_startPiece 72 = .ok (.aload_n 1, 1) := by decide +kernel
theorem dX4_startPiece_73 : decode cX4_startPiece 73 = .ok (.getfield 124, 3) := by decide +kernel
theorem dX4_startPiece_76 : decode cX4_startPiece 76 = .ok (.aload_n 2, 1) := by decide +kernel
theorem dX4_startPiece_77 : decode cX4_startPiece 77 = .ok (.invokevirtual 58, 3) := by decide +kernel
theorem dX4_startPiece_80 : decode cX4_startPiece 80 = .ok (.pop, 1) := by decide +kernel
theorem dX4_startPiece_81 : decode cX4_startPiece 81 = .ok (.iconst 0, 1) := by decide +kernel
theorem dX4_startPiece_82 : decode cX4_startPiece 82 = .ok (.istore 4, 2) := by decide +kernel
theorem dX4_startPiece_84 : decode cX4_startPiece 84 = .ok (.iload 4, 2) := by decide +kernel
theorem dX4_startPiece_86 : decode cX4_startPiece 86 = .ok (.iconst 3, 1) := by decide +kernel
theorem dX4_startPiece_87 : decode cX4_startPiece 87 = .ok (.if_icmp .ge 25, 3) := by decide +kernel
theorem dX4_startPiece_90 : decode cX4_startPiece 90 = .ok (.aload_n 3, 1) := by decide +kernel
theorem dX4_startPiece_91 : decode cX4_startPiece 91 = .ok (.ifnull 21, 3) := by decide +kernel
theorem dX4_startPiece_94 : decode cX4_startPiece 94 = .ok (.aload_n 3, 1) := by decide +kernel
theorem dX4_startPiece_95 : decode cX4_startPiece 95 = .ok (.aload_n 2, 1) := by decide +kernel
theorem dX4_startPiece_96 : decode cX4_startPiece 96 = .ok (.aconst_null, 1) := by decide +kernel
theorem dX4_startPiece_97 : decode cX4_startPiece 97 = .ok (.invokestatic 313, 3) := by decide +kernel
theorem dX4_startPiece_100 : decode cX4_startPiece 100 = .ok (.aload_n 0, 1) := by decide +kernel
theorem dX4_startPiece_101 : decode cX4_startPiece 101 = .ok (.aload_n 2, 1) := by decide +kernel
theorem dX4_startPiece_102 : decode cX4_startPiece 102 = .ok (.invokevirtual 308, 3) := by decide +kernel
theorem dX4_startPiece_105 : decode cX4_startPiece 105 = .ok (.astore_n 3, 1) := by decide +kernel
theorem dX4_startPiece_106 : decode cX4_startPiece 106 = .ok (.iinc 4 1, 3) := by decide +kernel
theorem dX4_startPiece_109 : decode cX4_startPiece 109 = .ok (.goto (-25), 3) := by decide +kernel
theorem dX4_startPiece_112 : decode cX4_startPiece 112 = .ok (.return_, 1) := by decide +kernel
theorem dX4_writeEverywhere_0 : decode cX4_writeEverywhere 0 = .ok (.aload_n 1, 1) := by decide +kernel
theorem dX4_writeEverywhere_1 : decode cX4_writeEverywhere 1 = .ok (.iload_n 2, 1) := by decide +kernel
theorem dX4_writeEverywhere_2 : decode cX4_writeEverywhere 2 = .ok (.invokestatic 158, 3) := by decide +kernel
theorem dX4_writeEverywhere_5 : decode cX4_writeEverywhere 5 = .ok (.astore 5, 2) := by decide +kernel
theorem dX4_writeEverywhere_7 : decode cX4_writeEverywhere 7 = .ok (.aload 5, 2) := by decide +kernel
theorem dX4_writeEverywhere_9 : decode cX4_writeEverywhere 9 = .ok (.getfield 133, 3) := by decide +kernel
theorem dX4_writeEverywhere_12 : decode cX4_writeEverywhere 12 = .ok (.iconst 1, 1) := by decide +kernel
theorem dX4_writeEverywhere_13 : decode cX4_writeEverywhere 13 = .ok (.if_icmp .le 13, 3) := by decide +kernel
theorem dX4_writeEverywhere_16 : decode cX4_writeEverywhere 16 = .ok (.aload_n 0, 1) := by decide +kernel
theorem dX4_writeEverywhere_17 : decode cX4_writeEverywhere 17 = .ok (.aload_n 1, 1) := by decide +kernel
theorem dX4_writeEverywhere_18 : decode cX4_writeEverywhere 18 = .ok (.iload_n 2, 1) := by decide +kernel
theorem dX4_writeEverywhere_19 : decode cX4_writeEverywhere 19 = .ok (.aload 5, 2) := by decide +kernel
theorem dX4_writeEverywhere_21 : decode cX4_writeEverywhere 21 = .ok (.invokevirtual 317, 3) := by decide +kernel
theorem dX4_writeEverywhere_24 : decode cX4_writeEverywhere 24 = .ok (.astore 5, 2) := by decide +kernel
theorem dX4_writeEverywhere_26 : decode cX4_writeEverywhere 26 = .ok (.aload_n 0, 1) := by decide +kernel
theorem dX4_writeEverywhere_27 : decode cX4_writeEverywhere 27 = .ok (.aload 5, 2) := by decide +kernel
theorem dX4_writeEverywhere_29 : decode cX4_writeEverywhere 29 = .ok (.invokevirtual 293, 3) := by decide +kernel
theorem dX4_writeEverywhere_32 : decode cX4_writeEverywhere 32 = .ok (.ifCond .ne 9, 3) := by decide +kernel
theorem dX4_writeEverywhere_35 : decode cX4_writeEverywhere 35 = .ok (.aload_n 0, 1) := by decide +kernel
theorem dX4_writeEverywhere_36 : decode cX4_writeEverywhere 36 = .ok (.aload 5, 2) := by decide +kernel
theorem dX4_writeEverywhere_38 : decode cX4_writeEverywhere 38 = .ok (.invokevirtual 321, 3) := by decide +kernel
theorem dX4_writeEverywhere_41 : decode cX4_writeEverywhere 41 = .ok (.iconst 1, 1) := by decide +kernel
theorem dX4_writeEverywhere_42 : decode cX4_writeEverywhere 42 = .ok (.istore 6, 2) := by decide +kernel
theorem dX4_writeEverywhere_44 : decode cX4_writeEverywhere 44 = .ok (.iconst 0, 1) := by decide +kernel
theorem dX4_writeEverywhere_45 : decode cX4_writeEverywhere 45 = .ok (.istore 7, 2) := by decide +kernel
theorem dX4_writeEverywhere_47 : decode cX4_writeEverywhere 47 = .ok (.iload 7, 2) := by decide +kernel
theorem dX4_writeEverywhere_49 : decode cX4_writeEverywhere 49 = .ok (.aload 5, 2) := by decide +kernel
theorem dX4_writeEverywhere_51 : decode cX4_writeEverywhere 51 = .ok (.getfield 184, 3) := by decide +kernel
theorem dX4_writeEverywhere_54 : decode cX4_writeEverywhere 54 = .ok (.invokevirtual 44, 3) := by decide +kernel
theorem dX4_writeEverywhere_57 : decode cX4_writeEverywhere 57 = .ok (.if_icmp .ge 60, 3) := by decide +kernel
theorem dX4_writeEverywhere_60 : decode cX4_writeEverywhere 60 = .ok (.aload 5, 2) := by decide +kernel
theorem dX4_writeEverywhere_62 : decode cX4_writeEverywhere 62 = .ok (.getfield 184, 3) := by decide +kernel
theorem dX4_writeEverywhere_65 : decode cX4_writeEverywhere 65 = .ok (.iload 7, 2) := by decide +kernel
theorem dX4_writeEverywhere_67 : decode cX4_writeEverywhere 67 = .ok (.invokevirtual 127, 3) := by decide +kernel
theorem dX4_writeEverywhere_70 : decode cX4_writeEverywhere 70 = .ok (.checkcast 53, 3) := by decide +kernel
theorem dX4_writeEverywhere_73 : decode cX4_writeEverywhere 73 = .ok (.astore 8, 2) := by decide +kernel
theorem dX4_writeEverywhere_75 : decode cX4_writeEverywhere 75 = .ok (.aload 8, 2) := by decide +kernel
theorem dX4_writeEverywhere_77 : decode cX4_writeEverywhere 77 = .ok (.aload 5, 2) := by decide +kernel
theorem dX4_writeEverywhere_79 : decode cX4_writeEverywhere 79 = .ok (.invokevirtual 82, 3) := by decide +kernel
theorem dX4_writeEverywhere_82 : decode cX4_writeEverywhere 82 = .ok (.astore 9, 2) := by decide +kernel
theorem dX4_writeEverywhere_84 : decode cX4_writeEverywhere 84 = .ok (.aload 8, 2) := by decide +kernel
theorem dX4_writeEverywhere_86 : decode cX4_writeEverywhere 86 = .ok (.getfield 69, 3) := by decide +kernel
theorem dX4_writeEverywhere_89 : decode cX4_writeEverywhere 89 = .ok (.ifCond .eq 19, 3) := by decide +kernel
theorem dX4_writeEverywhere_92 : decode cX4_writeEverywhere 92 = .ok (.aload 9, 2) := by decide +kernel
theorem dX4_writeEverywhere_94 : decode cX4_writeEverywhere 94 = .ok (.ifnull 14, 3) := by decide +kernel
theorem dX4_writeEverywhere_97 : decode cX4_writeEverywhere 97 = .ok (.aload 9, 2) := by decide +kernel
theorem dX4_writeEverywhere_99 : decode cX4_writeEverywhere 99 = .ok (.iload_n 3, 1) := by decide +kernel
theorem dX4_writeEverywhere_100 : decode cX4_writeEverywhere 100 = .ok (.iload 4, 2) := by decide +kernel
theorem dX4_writeEverywhere_102 : decode cX4_writeEverywhere 102 = .ok (.invokevirtual 325, 3) := by decide +kernel
theorem dX4_writeEverywhere_105 : decode cX4_writeEverywhere 105 = .ok (.goto 6, 3) := by decide +kernel
theorem dX4_writeEverywhere_108 : decode cX4_writeEverywhere 108 = .ok (.iconst 0, 1) := by decide +kernel
theorem dX4_writeEverywhere_109 : decode cX4_writeEverywhere 109 = .ok (.istore 6, 2) := by decide +kernel
theorem dX4_writeEverywhere_111 : decode cX4_writeEverywhere 111 = .ok (.iinc 7 1, 3) := by decide +kernel
theorem dX4_writeEverywhere_114 : decode cX4_writeEverywhere 114 = .ok (.goto (-67), 3) := by decide +kernel
theorem dX4_writeEverywhere_117 : decode cX4_writeEverywhere 117 = .ok (.iload 6, 2) := by decide +kernel
theorem dX4_writeEverywhere_119 : decode cX4_writeEverywhere 119 = .ok (.ifCond .ne 8, 3) := by decide +kernel
theorem dX4_writeEverywhere_122 : decode cX4_writeEverywhere 122 = .ok (.aload 5, 2) := by decide +kernel
theorem dX4_writeEverywhere_124 : decode cX4_writeEverywhere 124 = .ok (.invokevirtual 329, 3) := by decide +kernel
theorem dX4_writeEverywhere_127 : decode cX4_writeEverywhere 127 = .ok (.iload 6, 2) := by decide +kernel
theorem dX4_writeEverywhere_129 : decode cX4_writeEverywhere 129 = .ok (.ireturn, 1) := by decide +kernel
theorem dX4_partPiece_0 : decode cX4_partPiece 0 = .ok (.aload_n 0, 1) := by decide +kernel
theorem dX4_partPiece_1 : decode cX4_partPiece 1 = .ok (.invokevirtual 304, 3) := by decide +kernel
theorem dX4_partPiece_4 : decode cX4_partPiece 4 = .ok (.aload_n 3, 1) := by decide +kernel
theorem dX4_partPiece_5 : decode cX4_partPiece 5 = .ok (.iconst (-1), 1) := by decide +kernel
theorem dX4_partPiece_6 : decode cX4_partPiece 6 = .ok (.invokestatic 168, 3) := by decide +kernel
theorem dX4_partPiece_9 : decode cX4_partPiece 9 = .ok (.astore 4, 2) := by decide +kernel
