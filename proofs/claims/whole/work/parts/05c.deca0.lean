theorem dX0_init_0 : decode cX0_init 0 = .ok (.aload_n 0, 1) := by decide +kernel
theorem dX0_init_1 : decode cX0_init 1 = .ok (.invokespecial 3, 3) := by decide +kernel
theorem dX0_init_4 : decode cX0_init 4 = .ok (.aload_n 0, 1) := by decide +kernel
theorem dX0_init_5 : decode cX0_init 5 = .ok (.aconst_null, 1) := by decide +kernel
theorem dX0_init_6 : decode cX0_init 6 = .ok (.putfield 9, 3) := by decide +kernel
theorem dX0_init_9 : decode cX0_init 9 = .ok (.aload_n 0, 1) := by decide +kernel
theorem dX0_init_10 : decode cX0_init 10 = .ok (.iconst 0, 1) := by decide +kernel
theorem dX0_init_11 : decode cX0_init 11 = .ok (.putfield 15, 3) := by decide +kernel
theorem dX0_init_14 : decode cX0_init 14 = .ok (.aload_n 0, 1) := by decide +kernel
theorem dX0_init_15 : decode cX0_init 15 = .ok (.iconst 0, 1) := by decide +kernel
theorem dX0_init_16 : decode cX0_init 16 = .ok (.putfield 19, 3) := by decide +kernel
theorem dX0_init_19 : decode cX0_init 19 = .ok (.aload_n 0, 1) := by decide +kernel
theorem dX0_init_20 : decode cX0_init 20 = .ok (.iconst 0, 1) := by decide +kernel
theorem dX0_init_21 : decode cX0_init 21 = .ok (.putfield 22, 3) := by decide +kernel
theorem dX0_init_24 : decode cX0_init 24 = .ok (.aload_n 0, 1) := by decide +kernel
theorem dX0_init_25 : decode cX0_init 25 = .ok (.iconst 4, 1) := by decide +kernel
theorem dX0_init_26 : decode cX0_init 26 = .ok (.newarray .int, 2) := by decide +kernel
theorem dX0_init_28 : decode cX0_init 28 = .ok (.putfield 25, 3) := by decide +kernel
theorem dX0_init_31 : decode cX0_init 31 = .ok (.return_, 1) := by decide +kernel
theorem dX0_begin_0 : decode cX0_begin 0 = .ok (.aload_n 0, 1) := by decide +kernel
theorem dX0_begin_1 : decode cX0_begin 1 = .ok (.aload_n 1, 1) := by decide +kernel
theorem dX0_begin_2 : decode cX0_begin 2 = .ok (.putfield 9, 3) := by decide +kernel
theorem dX0_begin_5 : decode cX0_begin 5 = .ok (.aload_n 0, 1) := by decide +kernel
theorem dX0_begin_6 : decode cX0_begin 6 = .ok (.aload_n 1, 1) := by decide +kernel
theorem dX0_begin_7 : decode cX0_begin 7 = .ok (.getfield 29, 3) := by decide +kernel
theorem dX0_begin_10 : decode cX0_begin 10 = .ok (.putfield 15, 3) := by decide +kernel
theorem dX0_begin_13 : decode cX0_begin 13 = .ok (.aload_n 0, 1) := by decide +kernel
theorem dX0_begin_14 : decode cX0_begin 14 = .ok (.iconst 0, 1) := by decide +kernel
theorem dX0_begin_15 : decode cX0_begin 15 = .ok (.putfield 19, 3) := by decide +kernel
theorem dX0_begin_18 : decode cX0_begin 18 = .ok (.aload_n 0, 1) := by decide +kernel
theorem dX0_begin_19 : decode cX0_begin 19 = .ok (.iconst 0, 1) := by decide +kernel
theorem dX0_begin_20 : decode cX0_begin 20 = .ok (.putfield 22, 3) := by decide +kernel
theorem dX0_begin_23 : decode cX0_begin 23 = .ok (.return_, 1) := by decide +kernel
theorem dX0_takeCellsOf_0 : decode cX0_takeCellsOf 0 = .ok (.aload_n 0, 1) := by decide +kernel
theorem dX0_takeCellsOf_1 : decode cX0_takeCellsOf 1 = .ok (.aload_n 1, 1) := by decide +kernel
theorem dX0_takeCellsOf_2 : decode cX0_takeCellsOf 2 = .ok (.getfield 19, 3) := by decide +kernel
theorem dX0_takeCellsOf_5 : decode cX0_takeCellsOf 5 = .ok (.putfield 19, 3) := by decide +kernel
theorem dX0_takeCellsOf_8 : decode cX0_takeCellsOf 8 = .ok (.aload_n 0, 1) := by decide +kernel
theorem dX0_takeCellsOf_9 : decode cX0_takeCellsOf 9 = .ok (.aload_n 1, 1) := by decide +kernel
theorem dX0_takeCellsOf_10 : decode cX0_takeCellsOf 10 = .ok (.getfield 22, 3) := by decide +kernel
theorem dX0_takeCellsOf_13 : decode cX0_takeCellsOf 13 = .ok (.putfield 22, 3) := by decide +kernel
theorem dX0_takeCellsOf_16 : decode cX0_takeCellsOf 16 = .ok (.iconst 0, 1) := by decide +kernel
theorem dX0_takeCellsOf_17 : decode cX0_takeCellsOf 17 = .ok (.istore_n 2, 1) := by decide +kernel
theorem dX0_takeCellsOf_18 : decode cX0_takeCellsOf 18 = .ok (.iload_n 2, 1) := by decide +kernel
theorem dX0_takeCellsOf_19 : decode cX0_takeCellsOf 19 = .ok (.iconst 4, 1) := by decide +kernel
theorem dX0_takeCellsOf_20 : decode cX0_takeCellsOf 20 = .ok (.if_icmp .ge 21, 3) := by decide +kernel
theorem dX0_takeCellsOf_23 : decode cX0_takeCellsOf 23 = .ok (.aload_n 0, 1) := by decide +kernel
theorem dX0_takeCellsOf_24 : decode cX0_takeCellsOf 24 = .ok (.getfield 25, 3) := by decide +kernel
theorem dX0_takeCellsOf_27 : decode cX0_takeCellsOf 27 = .ok (.iload_n 2, 1) := by decide +kernel
theorem dX0_takeCellsOf_28 : decode cX0_takeCellsOf 28 = .ok (.aload_n 1, 1) := by decide +kernel
theorem dX0_takeCellsOf_29 : decode cX0_takeCellsOf 29 = .ok (.getfield 25, 3) := by decide +kernel
theorem dX0_takeCellsOf_32 : decode cX0_takeCellsOf 32 = .ok (.iload_n 2, 1) := by decide +kernel
theorem dX0_takeCellsOf_33 : decode cX0_takeCellsOf 33 = .ok (.iaload, 1) := by decide +kernel
theorem dX0_takeCellsOf_34 : decode cX0_takeCellsOf 34 = .ok (.iastore, 1) := by decide +kernel
theorem dX0_takeCellsOf_35 : decode cX0_takeCellsOf 35 = .ok (.iinc 2 1, 3) := by decide +kernel
theorem dX0_takeCellsOf_38 : decode cX0_takeCellsOf 38 = .ok (.goto (-20), 3) := by decide +kernel
theorem dX0_takeCellsOf_41 : decode cX0_takeCellsOf 41 = .ok (.return_, 1) := by decide +kernel
theorem dX0_hasCell_0 : decode cX0_hasCell 0 = .ok (.iload_n 1, 1) := by decide +kernel
theorem dX0_hasCell_1 : decode cX0_hasCell 1 = .ok (.ifCond .lt 20, 3) := by decide +kernel
theorem dX0_hasCell_4 : decode cX0_hasCell 4 = .ok (.iload_n 1, 1) := by decide +kernel
theorem dX0_hasCell_5 : decode cX0_hasCell 5 = .ok (.iconst 4, 1) := by decide +kernel
theorem dX0_hasCell_6 : decode cX0_hasCell 6 = .ok (.if_icmp .ge 15, 3) := by decide +kernel
theorem dX0_hasCell_9 : decode cX0_hasCell 9 = .ok (.iload_n 1, 1) := by decide +kernel
theorem dX0_hasCell_10 : decode cX0_hasCell 10 = .ok (.aload_n 0, 1) := by decide +kernel
theorem dX0_hasCell_11 : decode cX0_hasCell 11 = .ok (.getfield 19, 3) := by decide +kernel
theorem dX0_hasCell_14 : decode cX0_hasCell 14 = .ok (.if_icmp .ge 7, 3) := by decide +kernel
theorem dX0_hasCell_17 : decode cX0_hasCell 17 = .ok (.iconst 1, 1) := by decide +kernel
theorem dX0_hasCell_18 : decode cX0_hasCell 18 = .ok (.goto 4, 3) := by decide +kernel
theorem dX0_hasCell_21 : decode cX0_hasCell 21 = .ok (.iconst 0, 1) := by decide +kernel
theorem dX0_hasCell_22 : decode cX0_hasCell 22 = .ok (.ireturn, 1) := by decide +kernel
theorem dX0_isWrong_0 : decode cX0_isWrong 0 = .ok (.aload_n 0, 1) := by decide +kernel
theorem dX0_isWrong_1 : decode cX0_isWrong 1 = .ok (.iload_n 1, 1) := by decide +kernel
theorem dX0_isWrong_2 : decode cX0_isWrong 2 = .ok (.invokevirtual 32, 3) := by decide +kernel
theorem dX0_isWrong_5 : decode cX0_isWrong 5 = .ok (.ifCond .eq 19, 3) := by decide +kernel
theorem dX0_isWrong_8 : decode cX0_isWrong 8 = .ok (.aload_n 0, 1) := by decide +kernel
theorem dX0_isWrong_9 : decode cX0_isWrong 9 = .ok (.getfield 22, 3) := by decide +kernel
theorem dX0_isWrong_12 : decode cX0_isWrong 12 = .ok (.iload_n 1, 1) := by decide +kernel
theorem dX0_isWrong_13 : decode cX0_isWrong 13 = .ok (.ishr, 1) := by decide +kernel
theorem dX0_isWrong_14 : decode cX0_isWrong 14 = .ok (.iconst 1, 1) := by decide +kernel
theorem dX0_isWrong_15 : decode cX0_isWrong 15 = .ok (.iand, 1) := by decide +kernel
theorem dX0_isWrong_16 : decode cX0_isWrong 16 = .ok (.iconst 1, 1) := by decide +kernel
theorem dX0_isWrong_17 : decode cX0_isWrong 17 = .ok (.if_icmp .ne 7, 3) := by decide +kernel
theorem dX0_isWrong_20 : decode cX0_isWrong 20 = .ok (.iconst 1, 1) := by decide +kernel
theorem dX0_isWrong_21 : decode cX0_isWrong 21 = .ok (.goto 4, 3) := by decide +kernel
theorem dX0_isWrong_24 : decode cX0_isWrong 24 = .ok (.iconst 0, 1) := by decide +kernel
theorem dX0_isWrong_25 : decode cX0_isWrong 25 = .ok (.ireturn, 1) := by decide +kernel
theorem dX0_makeWrong_0 : decode cX0_makeWrong 0 = .ok (.aload_n 0, 1) := by decide +kernel
theorem dX0_makeWrong_1 : decode cX0_makeWrong 1 = .ok (.iload_n 1, 1) := by decide +kernel
theorem dX0_makeWrong_2 : decode cX0_makeWrong 2 = .ok (.invokevirtual 32, 3) := by decide +kernel
theorem dX0_makeWrong_5 : decode cX0_makeWrong 5 = .ok (.ifCond .eq 15, 3) := by decide +kernel
theorem dX0_makeWrong_8 : decode cX0_makeWrong 8 = .ok (.aload_n 0, 1) := by decide +kernel
theorem dX0_makeWrong_9 : decode cX0_makeWrong 9 = .ok (.dup, 1) := by decide +kernel
theorem dX0_makeWrong_10 : decode cX0_makeWrong 10 = .ok (.getfield 22, 3) := by decide +kernel
theorem dX0_makeWrong_13 : decode cX0_makeWrong 13 = .ok (.iconst 1, 1) := by decide +kernel
theorem dX0_makeWrong_14 : decode cX0_makeWrong 14 = .ok (.iload_n 1, 1) := by decide +kernel
theorem dX0_makeWrong_15 : decode cX0_makeWrong 15 = .ok (.ishl, 1) := by decide +kernel
theorem dX0_makeWrong_16 : decode cX0_makeWrong 16 = .ok (.ior, 1) := by decide +kernel
theorem dX0_makeWrong_17 : decode cX0_makeWrong 17 = .ok (.putfield 22, 3) := by decide +kernel
theorem dX0_makeWrong_20 : decode cX0_makeWrong 20 = .ok (.return_, 1) := by decide +kernel
theorem dX0_numberIn_0 : decode cX0_numberIn 0 = .ok (.aload_n 0, 1) := by decide +kernel
theorem dX0_numberIn_1 : decode cX0_numberIn 1 = .ok (.iload_n 1, 1) := by decide +kernel
theorem dX0_numberIn_2 : decode cX0_numberIn 2 = .ok (.invokevirtual 32, 3) := by decide +kernel
theorem dX0_numberIn_5 : decode cX0_numberIn 5 = .ok (.ifCond .eq 12, 3) := by decide +kernel
theorem dX0_numberIn_8 : decode cX0_numberIn 8 = .ok (.aload_n 0, 1) := by decide +kernel
theorem dX0_numberIn_9 : decode cX0_numberIn 9 = .ok (.getfield 25, 3) := by decide +kernel
theorem dX0_numberIn_12 : decode cX0_numberIn 12 = .ok (.iload_n 1, 1) := by decide +kernel
theorem dX0_numberIn_13 : decode cX0_numberIn 13 = .ok (.iaload, 1) := by decide +kernel
theorem dX0_numberIn_14 : decode cX0_numberIn 14 = .ok (.goto 4, 3) := by decide +kernel
theorem dX0_numberIn_17 : decode cX0_numberIn 17 = .ok (.iconst (-1), 1) := by decide +kernel
theorem dX0_numberIn_18 : decode cX0_numberIn 18 = .ok (.ireturn, 1) := by decide +kernel
theorem dX0_write_0 : decode cX0_write 0 = .ok (.iload_n 1, 1) := by decide +kernel
theorem dX0_write_1 : decode cX0_write 1 = .ok (.ifCond .lt 8, 3) := by decide +kernel
theorem dX0_write_4 : decode cX0_write 4 = .ok (.iload_n 1, 1) := by decide +kernel
theorem dX0_write_5 : decode cX0_write 5 = .ok (.iconst 4, 1) := by decide +kernel
theorem dX0_write_6 : decode cX0_write 6 = .ok (.if_icmp .lt 4, 3) := by decide +kernel
theorem dX0_write_9 : decode cX0_write 9 = .ok (.return_, 1) := by decide +kernel
theorem dX0_write_10 : decode cX0_write 10 = .ok (.aload_n 0, 1) := by decide +kernel
theorem dX0_write_11 : decode cX0_write 11 = .ok (.getfield 19, 3) := by decide +kernel
theorem dX0_write_14 : decode cX0_write 14 = .ok (.istore_n 3, 1) := by decide +kernel
theorem dX0_write_15 : decode cX0_write 15 = .ok (.iload_n 3, 1) := by decide +kernel
theorem dX0_write_16 : decode cX0_write 16 = .ok (.iload_n 1, 1) := by decide +kernel
theorem dX0_write_17 : decode cX0_write 17 = .ok (.if_icmp .ge 16, 3) := by decide +kernel
theorem dX0_write_20 : decode cX0_write 20 = .ok (.aload_n 0, 1) := by decide +kernel
theorem dX0_write_21 : decode cX0_write 21 = .ok (.getfield 25, 3) := by decide +kernel
theorem dX0_write_24 : decode cX0_write 24 = .ok (.iload_n 3, 1) := by decide +kernel
theorem dX0_write_25 : decode cX0_write 25 = .ok (.iconst (-1), 1) := by decide +kernel
theorem dX0_write_26 : decode cX0_write 26 = .ok (.iastore, 1) := by decide +kernel
theorem dX0_write_27 : decode cX0_write 27 = .ok (.iinc 3 1, 3) := by decide +kernel
theorem dX0_write_30 : decode cX0_write 30 = .ok (.goto (-15), 3) := by decide +kernel
theorem dX0_write_33 : decode cX0_write 33 = .ok (.aload_n 0, 1) := by decide +kernel
theorem dX0_write_34 : decode cX0_write 34 = .ok (.aload_n 0, 1) := by decide +kernel
theorem dX0_write_35 : decode cX0_write 35 = .ok (.getfield 19, 3) := by decide +kernel
theorem dX0_write_38 : decode cX0_write 38 = .ok (.iload_n 1, 1) := by decide +kernel
theorem dX0_write_39 : decode cX0_write 39 = .ok (.iconst 1, 1) := by decide +kernel
theorem dX0_write_40 : decode cX0_write 40 = .ok (.iadd, 1) := by decide +kernel
theorem dX0_write_41 : decode cX0_write 41 = .ok (.invokestatic 36, 3) := by decide +kernel
theorem dX0_write_44 : decode cX0_write 44 = .ok (.putfield 19, 3) := by decide +kernel
theorem dX0_write_47 : decode cX0_write 47 = .ok (.aload_n 0, 1) := by decide +kernel
theorem dX0_write_48 : decode cX0_write 48 = .ok (.getfield 25, 3) := by decide +kernel
theorem dX0_write_51 : decode cX0_write 51 = .ok (.iload_n 1, 1) := by decide +kernel
theorem dX0_write_52 : decode cX0_write 52 = .ok (.iload_n 2, 1) := by decide +kernel
theorem dX0_write_53 : decode cX0_write 53 = .ok (.iastore, 1) := by decide +kernel
theorem dX0_write_54 : decode cX0_write 54 = .ok (.aload_n 0, 1) := by decide +kernel
theorem dX0_write_55 : decode cX0_write 55 = .ok (.dup, 1) := by decide +kernel
theorem dX0_write_56 : decode cX0_write 56 = .ok (.getfield 22, 3) := by decide +kernel
theorem dX0_write_59 : decode cX0_write 59 = .ok (.iconst 1, 1) := by decide +kernel
theorem dX0_write_60 : decode cX0_write 60 = .ok (.iload_n 1, 1) := by decide +kernel
theorem dX0_write_61 : decode cX0_write 61 = .ok (.ishl, 1) := by decide +kernel
theorem dX0_write_62 : decode cX0_write 62 = .ok (.iconst (-1), 1) := by decide +kernel
theorem dX0_write_63 : decode cX0_write 63 = .ok (.ixor, 1) := by decide +kernel
theorem dX0_write_64 : decode cX0_write 64 = .ok (.iand, 1) := by decide +kernel
theorem dX0_write_65 : decode cX0_write 65 = .ok (.putfield 22, 3) := by decide +kernel
theorem dX0_write_68 : decode cX0_write 68 = .ok (.return_, 1) := by decide +kernel
theorem dX1_init_0 : decode cX1_init 0 = .ok (.aload_n 0, 1) := by decide +kernel
theorem dX1_init_1 : decode cX1_init 1 = .ok (.invokespecial 3, 3) := by decide +kernel
theorem dX1_init_4 : decode cX1_init 4 = .ok (.aload_n 0, 1) := by decide +kernel
theorem dX1_init_5 : decode cX1_init 5 = .ok (.iconst 0, 1) := by decide +kernel
theorem dX1_init_6 : decode cX1_init 6 = .ok (.putfield 9, 3) := by decide +kernel
theorem dX1_init_9 : decode cX1_init 9 = .ok (.aload_n 0, 1) := by decide +kernel
theorem dX1_init_10 : decode cX1_init 10 = .ok (.iconst 0, 1) := by decide +kernel
theorem dX1_init_11 : decode cX1_init 11 = .ok (.putfield 15, 3) := by decide +kernel
theorem dX1_init_14 : decode cX1_init 14 = .ok (.aload_n 0, 1) := by decide +kernel
theorem dX1_init_15 : decode cX1_init 15 = .ok (.new 18, 3) := by decide +kernel
theorem dX1_init_18 : decode cX1_init 18 = .ok (.dup, 1) := by decide +kernel
theorem dX1_init_19 : decode cX1_init 19 = .ok (.invokespecial 20, 3) := by decide +kernel
theorem dX1_init_22 : decode cX1_init 22 = .ok (.putfield 21, 3) := by decide +kernel
theorem dX1_init_25 : decode cX1_init 25 = .ok (.aload_n 0, 1) := by decide +kernel
theorem dX1_init_26 : decode cX1_init 26 = .ok (.iload_n 1, 1) := by decide +kernel
theorem dX1_init_27 : decode cX1_init 27 = .ok (.putfield 25, 3) := by decide +kernel
theorem dX1_init_30 : decode cX1_init 30 = .ok (.return_, 1) := by decide +kernel
theorem dX1_end_0 : decode cX1_end 0 = .ok (.aload_n 0, 1) := by decide +kernel
theorem dX1_end_1 : decode cX1_end 1 = .ok (.iconst 2, 1) := by decide +kernel
theorem dX1_end_2 : decode cX1_end 2 = .ok (.putfield 9, 3) := by decide +kernel
theorem dX1_end_5 : decode cX1_end 5 = .ok (.iconst 0, 1) := by decide +kernel
theorem dX1_end_6 : decode cX1_end 6 = .ok (.istore_n 1, 1) := by decide +kernel
theorem dX1_end_7 : decode cX1_end 7 = .ok (.iload_n 1, 1) := by decide +kernel
theorem dX1_end_8 : decode cX1_end 8 = .ok (.aload_n 0, 1) := by decide +kernel
theorem dX1_end_9 : decode cX1_end 9 = .ok (.getfield 21, 3) := by decide +kernel
theorem dX1_end_12 : decode cX1_end 12 = .ok (.invokevirtual 28, 3) := by decide +kernel
theorem dX1_end_15 : decode cX1_end 15 = .ok (.if_icmp .ge 29, 3) := by decide +kernel
theorem dX1_end_18 : decode cX1_end 18 = .ok (.aload_n 0, 1) := by decide +kernel
theorem dX1_end_19 : decode cX1_end 19 = .ok (.getfield 21, 3) := by decide +kernel
theorem dX1_end_22 : decode cX1_end 22 = .ok (.iload_n 1, 1) := by decide +kernel
theorem dX1_end_23 : decode cX1_end 23 = .ok (.invokevirtual 32, 3) := by decide +kernel
theorem dX1_end_26 : decode cX1_end 26 = .ok (.checkcast 36, 3) := by decide +kernel
theorem dX1_end_29 : decode cX1_end 29 = .ok (.dup, 1) := by decide +kernel
theorem dX1_end_30 : decode cX1_end 30 = .ok (.getfield 38, 3) := by decide +kernel
theorem dX1_end_33 : decode cX1_end 33 = .ok (.iconst 1, 1) := by decide +kernel
theorem dX1_end_34 : decode cX1_end 34 = .ok (.isub, 1) := by decide +kernel
theorem dX1_end_35 : decode cX1_end 35 = .ok (.putfield 38, 3) := by decide +kernel
theorem dX1_end_38 : decode cX1_end 38 = .ok (.iinc 1 1, 3) := by decide +kernel
theorem dX1_end_41 : decode cX1_end 41 = .ok (.goto (-34), 3) := by decide +kernel
theorem dX1_end_44 : decode cX1_end 44 = .ok (.aload_n 0, 1) := by decide +kernel
theorem dX1_end_45 : decode cX1_end 45 = .ok (.getfield 21, 3) := by decide +kernel
theorem dX1_end_48 : decode cX1_end 48 = .ok (.invokevirtual 41, 3) := by decide +kernel
theorem dX1_end_51 : decode cX1_end 51 = .ok (.return_, 1) := by decide +kernel
theorem dX2_init_0 : decode cX2_init 0 = .ok (.aload_n 0, 1) := by decide +kernel
theorem dX2_init_1 : decode cX2_init 1 = .ok (.invokespecial 3, 3) := by decide +kernel
theorem dX2_init_4 : decode cX2_init 4 = .ok (.aload_n 0, 1) := by decide +kernel
theorem dX2_init_5 : decode cX2_init 5 = .ok (.iconst 0, 1) := by decide +kernel
theorem dX2_init_6 : decode cX2_init 6 = .ok (.putfield 9, 3) := by decide +kernel
theorem dX2_init_9 : decode cX2_init 9 = .ok (.aload_n 0, 1) := by decide +kernel
theorem dX2_init_10 : decode cX2_init 10 = .ok (.iconst 1, 1) := by decide +kernel
theorem dX2_init_11 : decode cX2_init 11 = .ok (.putfield 15, 3) := by decide +kernel
theorem dX2_init_14 : decode cX2_init 14 = .ok (.aload_n 0, 1) := by decide +kernel
theorem dX2_init_15 : decode cX2_init 15 = .ok (.iconst 1, 1) := by decide +kernel
theorem dX2_init_16 : decode cX2_init 16 = .ok (.putfield 19, 3) := by decide +kernel
theorem dX2_init_19 : decode cX2_init 19 = .ok (.aload_n 0, 1) := by decide +kernel
theorem dX2_init_20 : decode cX2_init 20 = .ok (.iconst 0, 1) := by decide +kernel
theorem dX2_init_21 : decode cX2_init 21 = .ok (.putfield 22, 3) := by decide +kernel
theorem dX2_init_24 : decode cX2_init 24 = .ok (.aload_n 0, 1) := by decide +kernel
theorem dX2_init_25 : decode cX2_init 25 = .ok (.iconst (-1), 1) := by decide +kernel
theorem dX2_init_26 : decode cX2_init 26 = .ok (.putfield 25, 3) := by decide +kernel
theorem dX2_init_29 : decode cX2_init 29 = .ok (.aload_n 0, 1) := by decide +kernel
theorem dX2_init_30 : decode cX2_init 30 = .ok (.iload_n 1, 1) := by decide +kernel
theorem dX2_init_31 : decode cX2_init 31 = .ok (.putfield 28, 3) := by decide +kernel
theorem dX2_init_34 : decode cX2_init 34 = .ok (.aload_n 0, 1) := by decide +kernel
theorem dX2_init_35 : decode cX2_init 35 = .ok (.iload_n 2, 1) := by decide +kernel
theorem dX2_init_36 : decode cX2_init 36 = .ok (.putfield 31, 3) := by decide +kernel
theorem dX2_init_39 : decode cX2_init 39 = .ok (.aload_n 0, 1) := by decide +kernel
theorem dX2_init_40 : decode cX2_init 40 = .ok (.iload_n 3, 1) := by decide +kernel
theorem dX2_init_41 : decode cX2_init 41 = .ok (.iconst 0, 1) := by decide +kernel
theorem dX2_init_42 : decode cX2_init 42 = .ok (.invokestatic 34, 3) := by decide +kernel
theorem dX2_init_45 : decode cX2_init 45 = .ok (.anewarray 40, 3) := by decide +kernel
theorem dX2_init_48 : decode cX2_init 48 = .ok (.putfield 42, 3) := by decide +kernel
theorem dX2_init_51 : decode cX2_init 51 = .ok (.iconst 0, 1) := by decide +kernel
theorem dX2_init_52 : decode cX2_init 52 = .ok (.istore 4, 2) := by decide +kernel
theorem dX2_init_54 : decode cX2_init 54 = .ok (.iload 4, 2) := by decide +kernel
theorem dX2_init_56 : decode cX2_init 56 = .ok (.aload_n 0, 1) := by decide +kernel
theorem dX2_init_57 : decode cX2_init 57 = .ok (.getfield 42, 3) := by decide +kernel
theorem dX2_init_60 : decode cX2_init 60 = .ok (.arraylength, 1) := by decide +kernel
theorem dX2_init_61 : decode cX2_init 61 = .ok (.if_icmp .ge 23, 3) := by decide +kernel
theorem dX2_init_64 : decode cX2_init 64 = .ok (.aload_n 0, 1) := by decide +kernel
theorem dX2_init_65 : decode cX2_init 65 = .ok (.getfield 42, 3) := by decide +kernel
theorem dX2_init_68 : decode cX2_init 68 = .ok (.iload 4, 2) := by decide +kernel
theorem dX2_init_70 : decode cX2_init 70 = .ok (.new 40, 3) := by decide +kernel
theorem dX2_init_73 : decode cX2_init 73 = .ok (.dup, 1) := by decide +kernel
theorem dX2_init_74 : decode cX2_init 74 = .ok (.invokespecial 46, 3) := by decide +kernel
theorem dX2_init_77 : decode cX2_init 77 = .ok (.aastore, 1) := by decide +kernel
theorem dX2_init_78 : decode cX2_init 78 = .ok (.iinc 4 1, 3) := by decide +kernel
theorem dX2_init_81 : decode cX2_init 81 = .ok (.goto (-27), 3) := by decide +kernel
theorem dX2_init_84 : decode cX2_init 84 = .ok (.return_, 1) := by decide +kernel
theorem dX2_hasRoom_0 : decode cX2_hasRoom 0 = .ok (.aload_n 0, 1) := by decide +kernel
theorem dX2_hasRoom_1 : decode cX2_hasRoom 1 = .ok (.getfield 9, 3) := by decide +kernel
theorem dX2_hasRoom_4 : decode cX2_hasRoom 4 = .ok (.aload_n 0, 1) := by decide +kernel
theorem dX2_hasRoom_5 : decode cX2_hasRoom 5 = .ok (.getfield 42, 3) := by decide +kernel
theorem dX2_hasRoom_8 : decode cX2_hasRoom 8 = .ok (.arraylength, 1) := by decide +kernel
theorem dX2_hasRoom_9 : decode cX2_hasRoom 9 = .ok (.if_icmp .ge 7, 3) := by decide +kernel
theorem dX2_hasRoom_12 : decode cX2_hasRoom 12 = .ok (.iconst 1, 1) := by decide +kernel
theorem dX2_hasRoom_13 : decode cX2_hasRoom 13 = .ok (.goto 4, 3) := by decide +kernel
theorem dX2_hasRoom_16 : decode cX2_hasRoom 16 = .ok (.iconst 0, 1) := by decide +kernel
theorem dX2_hasRoom_17 : decode cX2_hasRoom 17 = .ok (.ireturn, 1) := by decide +kernel
theorem dX2_copyOf_0 : decode cX2_copyOf 0 = .ok (.aload_n 0, 1) := by decide +kernel
theorem dX2_copyOf_1 : decode cX2_copyOf 1 = .ok (.getfield 42, 3) := by decide +kernel
theorem dX2_copyOf_4 : decode cX2_copyOf 4 = .ok (.astore_n 2, 1) := by decide +kernel
theorem dX2_copyOf_5 : decode cX2_copyOf 5 = .ok (.aload_n 2, 1) := by decide +kernel
theorem dX2_copyOf_6 : decode cX2_copyOf 6 = .ok (.arraylength, 1) := by decide +kernel
theorem dX2_copyOf_7 : decode cX2_copyOf 7 = .ok (.istore_n 3, 1) := by decide +kernel
theorem dX2_copyOf_8 : decode cX2_copyOf 8 = .ok (.iconst 0, 1) := by decide +kernel
theorem dX2_copyOf_9 : decode cX2_copyOf 9 = .ok (.istore 4, 2) := by decide +kernel
theorem dX2_copyOf_11 : decode cX2_copyOf 11 = .ok (.iload 4, 2) := by decide +kernel
theorem dX2_copyOf_13 : decode cX2_copyOf 13 = .ok (.iload_n 3, 1) := by decide +kernel
theorem dX2_copyOf_14 : decode cX2_copyOf 14 = .ok (.if_icmp .ge 27, 3) := by decide +kernel
theorem dX2_copyOf_17 : decode cX2_copyOf 17 = .ok (.aload_n 2, 1) := by decide +kernel
theorem dX2_copyOf_18 : decode cX2_copyOf 18 = .ok (.iload 4, 2) := by decide +kernel
theorem dX2_copyOf_20 : decode cX2_copyOf 20 = .ok (.aaload, 1) := by decide +kernel
theorem dX2_copyOf_21 : decode cX2_copyOf 21 = .ok (.astore 5, 2) := by decide +kernel
theorem dX2_copyOf_23 : decode cX2_copyOf 23 = .ok (.aload 5, 2) := by decide +kernel
theorem dX2_copyOf_25 : decode cX2_copyOf 25 = .ok (.getfield 47, 3) := by decide +kernel
theorem dX2_copyOf_28 : decode cX2_copyOf 28 = .ok (.aload_n 1, 1) := by decide +kernel
theorem dX2_copyOf_29 : decode cX2_copyOf 29 = .ok (.if_acmp .ne 6, 3) := by decide +kernel
theorem dX2_copyOf_32 : decode cX2_copyOf 32 = .ok (.aload 5, 2) := by decide +kernel
theorem dX2_copyOf_34 : decode cX2_copyOf 34 = .ok (.areturn, 1) := by decide +kernel
theorem dX2_copyOf_35 : decode cX2_copyOf 35 = .ok (.iinc 4 1, 3) := by decide +kernel
theorem dX2_copyOf_38 : decode cX2_copyOf 38 = .ok (.goto (-27), 3) := by decide +kernel
theorem dX2_copyOf_41 : decode cX2_copyOf 41 = .ok (.aconst_null, 1) := by decide +kernel
theorem dX2_copyOf_42 : decode cX2_copyOf 42 = .ok (.areturn, 1) := by decide +kernel
theorem dX2_has_0 : decode cX2_has 0 = .ok (.aload_n 0, 1) := by decide +kernel
theorem dX2_has_1 : decode cX2_has 1 = .ok (.aload_n 1, 1) := by decide +kernel
theorem dX2_has_2 : decode cX2_has 2 = .ok (.invokevirtual 51, 3) := by decide +kernel
theorem dX2_has_5 : decode cX2_has 5 = .ok (.ifnull 7, 3) := by decide +kernel
theorem dX2_has_8 : decode cX2_has 8 = .ok (.iconst 1, 1) := by decide +kernel
theorem dX2_has_9 : decode cX2_has 9 = .ok (.goto 4, 3) := by decide +kernel
theorem dX2_has_12 : decode cX2_has 12 = .ok (.iconst 0, 1) := by decide +kernel
theorem dX2_has_13 : decode cX2_has 13 = .ok (.ireturn, 1) := by decide +kernel
theorem dX2_takePlace_0 : decode cX2_takePlace 0 = .ok (.aload_n 0, 1) := by decide +kernel
theorem dX2_takePlace_1 : decode cX2_takePlace 1 = .ok (.aconst_null, 1) := by decide +kernel
theorem dX2_takePlace_2 : decode cX2_takePlace 2 = .ok (.invokevirtual 51, 3) := by decide +kernel
theorem dX2_takePlace_5 : decode cX2_takePlace 5 = .ok (.astore_n 2, 1) := by decide +kernel
theorem dX2_takePlace_6 : decode cX2_takePlace 6 = .ok (.aload_n 2, 1) := by decide +kernel
theorem dX2_takePlace_7 : decode cX2_takePlace 7 = .ok (.ifnull 18, 3) := by decide +kernel
theorem dX2_takePlace_10 : decode cX2_takePlace 10 = .ok (.aload_n 2, 1) := by decide +kernel
theorem dX2_takePlace_11 : decode cX2_takePlace 11 = .ok (.aload_n 1, 1) := by decide +kernel
theorem dX2_takePlace_12 : decode cX2_takePlace 12 = .ok (.invokevirtual 55, 3) := by decide +kernel
theorem dX2_takePlace_15 : decode cX2_takePlace 15 = .ok (.aload_n 0, 1) := by decide +kernel
theorem dX2_takePlace_16 : decode cX2_takePlace 16 = .ok (.dup, 1) := by decide +kernel
theorem dX2_takePlace_17 : decode cX2_takePlace 17 = .ok (.getfield 9, 3) := by decide +kernel
theorem dX2_takePlace_20 : decode cX2_takePlace 20 = .ok (.iconst 1, 1) := by decide +kernel
theorem dX2_takePlace_21 : decode cX2_takePlace 21 = .ok (.iadd, 1) := by decide +kernel
theorem dX2_takePlace_22 : decode cX2_takePlace 22 = .ok (.putfield 9, 3) := by decide +kernel
theorem dX2_takePlace_25 : decode cX2_takePlace 25 = .ok (.aload_n 2, 1) := by decide +kernel
theorem dX2_takePlace_26 : decode cX2_takePlace 26 = .ok (.areturn, 1) := by decide +kernel
theorem dX2_freePlace_0 : decode cX2_freePlace 0 = .ok (.aload_n 1, 1) := by decide +kernel
theorem dX2_freePlace_1 : decode cX2_freePlace 1 = .ok (.aconst_null, 1) := by decide +kernel
theorem dX2_freePlace_2 : decode cX2_freePlace 2 = .ok (.putfield 47, 3) := by decide +kernel
theorem dX2_freePlace_5 : decode cX2_freePlace 5 = .ok (.aload_n 0, 1) := by decide +kernel
theorem dX2_freePlace_6 : decode cX2_freePlace 6 = .ok (.dup, 1) := by decide +kernel
theorem dX2_freePlace_7 : decode cX2_freePlace 7 = .ok (.getfield 9, 3) := by decide +kernel
theorem dX2_freePlace_10 : decode cX2_freePlace 10 = .ok (.iconst 1, 1) := by decide +kernel
theorem dX2_freePlace_11 : decode cX2_freePlace 11 = .ok (.isub, 1) := by decide +kernel
theorem dX2_freePlace_12 : decode cX2_freePlace 12 = .ok (.putfield 9, 3) := by decide +kernel
theorem dX2_freePlace_15 : decode cX2_freePlace 15 = .ok (.return_, 1) := by decide +kernel
theorem dX2_nextToLookAt_0 : decode cX2_nextToLookAt 0 = .ok (.aconst_null, 1) := by decide +kernel
theorem dX2_nextToLookAt_1 : decode cX2_nextToLookAt 1 = .ok (.astore_n 1, 1) := by decide +kernel
theorem dX2_nextToLookAt_2 : decode cX2_nextToLookAt 2 = .ok (.aconst_null, 1) := by decide +kernel
theorem dX2_nextToLookAt_3 : decode cX2_nextToLookAt 3 = .ok (.astore_n 2, 1) := by decide +kernel
theorem dX2_nextToLookAt_4 : decode cX2_nextToLookAt 4 = .ok (.aload_n 0, 1) := by decide +kernel
theorem dX2_nextToLookAt_5 : decode cX2_nextToLookAt 5 = .ok (.getfield 42, 3) := by decide +kernel
theorem dX2_nextToLookAt_8 : decode cX2_nextToLookAt 8 = .ok (.astore_n 3, 1) := by decide +kernel
theorem dX2_nextToLookAt_9 : decode cX2_nextToLookAt 9 = .ok (.aload_n 3, 1) := by decide +kernel
theorem dX2_nextToLookAt_10 : decode cX2_nextToLookAt 10 = .ok (.arraylength, 1) := by decide +kernel
theorem dX2_nextToLookAt_11 : decode cX2_nextToLookAt 11 = .ok (.istore 4, 2) := by decide +kernel
theorem dX2_nextToLookAt_13 : decode cX2_nextToLookAt 13 = .ok (.iconst 0, 1) := by decide +kernel
theorem dX2_nextToLookAt_14 : decode cX2_nextToLookAt 14 = .ok (.istore 5, 2) := by decide +kernel
theorem dX2_nextToLookAt_16 : decode cX2_nextToLookAt 16 = .ok (.iload 5, 2) := by decide +kernel
theorem dX2_nextToLookAt_18 : decode cX2_nextToLookAt 18 = .ok (.iload 4, 2) := by decide +kernel
theorem dX2_nextToLookAt_20 : decode cX2_nextToLookAt 20 = .ok (.if_icmp .ge 97, 3) := by decide +kernel
theorem dX2_nextToLookAt_23 : decode cX2_nextToLookAt 23 = .ok (.aload_n 3, 1) := by decide +kernel
theorem dX2_nextToLookAt_24 : decode cX2_nextToLookAt 24 = .ok (.iload 5, 2) := by decide +kernel
theorem dX2_nextToLookAt_26 : decode cX2_nextToLookAt 26 = .ok (.aaload, 1) := by decide +kernel
theorem dX2_nextToLookAt_27 : decode cX2_nextToLookAt 27 = .ok (.astore 6, 2) := by decide +kernel
theorem dX2_nextToLookAt_29 : decode cX2_nextToLookAt 29 = .ok (.aload 6, 2) := by decide +kernel
theorem dX2_nextToLookAt_31 : decode cX2_nextToLookAt 31 = .ok (.getfield 47, 3) := by decide +kernel
theorem dX2_nextToLookAt_34 : decode cX2_nextToLookAt 34 = .ok (.ifnonnull 6, 3) := by decide +kernel
theorem dX2_nextToLookAt_37 : decode cX2_nextToLookAt 37 = .ok (.goto 74, 3) := by decide +kernel
theorem dX2_nextToLookAt_40 : decode cX2_nextToLookAt 40 = .ok (.aload 6, 2) := by decide +kernel
theorem dX2_nextToLookAt_42 : decode cX2_nextToLookAt 42 = .ok (.getfield 47, 3) := by decide +kernel
theorem dX2_nextToLookAt_45 : decode cX2_nextToLookAt 45 = .ok (.getfield 59, 3) := by decide +kernel
theorem dX2_nextToLookAt_48 : decode cX2_nextToLookAt 48 = .ok (.istore 7, 2) := by decide +kernel
theorem dX2_nextToLookAt_50 : decode cX2_nextToLookAt 50 = .ok (.aload_n 1, 1) := by decide +kernel
theorem dX2_nextToLookAt_51 : decode cX2_nextToLookAt 51 = .ok (.ifnull 22, 3) := by decide +kernel
theorem dX2_nextToLookAt_54 : decode cX2_nextToLookAt 54 = .ok (.aload_n 1, 1) := by decide +kernel
theorem dX2_nextToLookAt_55 : decode cX2_nextToLookAt 55 = .ok (.getfield 47, 3) := by decide +kernel
theorem dX2_nextToLookAt_58 : decode cX2_nextToLookAt 58 = .ok (.ifnull 15, 3) := by decide +kernel
theorem dX2_nextToLookAt_61 : decode cX2_nextToLookAt 61 = .ok (.iload 7, 2) := by decide +kernel
theorem dX2_nextToLookAt_63 : decode cX2_nextToLookAt 63 = .ok (.aload_n 1, 1) := by decide +kernel
theorem dX2_nextToLookAt_64 : decode cX2_nextToLookAt 64 = .ok (.getfield 47, 3) := by decide +kernel
theorem dX2_nextToLookAt_67 : decode cX2_nextToLookAt 67 = .ok (.getfield 59, 3) := by decide +kernel
theorem dX2_nextToLookAt_70 : decode cX2_nextToLookAt 70 = .ok (.if_icmp .ge 6, 3) := by decide +kernel
theorem dX2_nextToLookAt_73 : decode cX2_nextToLookAt 73 = .ok (.aload 6, 2) := by decide +kernel
theorem dX2_nextToLookAt_75 : decode cX2_nextToLookAt 75 = .ok (.astore_n 1, 1) := by decide +kernel
theorem dX2_nextToLookAt_76 : decode cX2_nextToLookAt 76 = .ok (.iload 7, 2) := by decide +kernel
theorem dX2_nextToLookAt_78 : decode cX2_nextToLookAt 78 = .ok (.aload_n 0, 1) := by decide +kernel
theorem dX2_nextToLookAt_79 : decode cX2_nextToLookAt 79 = .ok (.getfield 25, 3) := by decide +kernel
theorem dX2_nextToLookAt_82 : decode cX2_nextToLookAt 82 = .ok (.if_icmp .le 29, 3) := by decide +kernel
theorem dX2_nextToLookAt_85 : decode cX2_nextToLookAt 85 = .ok (.aload_n 2, 1) := by decide +kernel
theorem dX2_nextToLookAt_86 : decode cX2_nextToLookAt 86 = .ok (.ifnull 22, 3) := by decide +kernel
theorem dX2_nextToLookAt_89 : decode cX2_nextToLookAt 89 = .ok (.aload_n 2, 1) := by decide +kernel
theorem dX2_nextToLookAt_90 : decode cX2_nextToLookAt 90 = .ok (.getfield 47, 3) := by decide +kernel
theorem dX2_nextToLookAt_93 : decode cX2_nextToLookAt 93 = .ok (.ifnull 15, 3) := by decide +kernel
theorem dX2_nextToLookAt_96 : decode cX2_nextToLookAt 96 = .ok (.iload 7, 2) := by decide +kernel
theorem dX2_nextToLookAt_98 : decode cX2_nextToLookAt 98 = .ok (.aload_n 2, 1) := by decide +kernel
theorem dX2_nextToLookAt_99 : decode cX2_nextToLookAt 99 = .ok (.getfield 47, 3) := by decide +kernel
theorem dX2_nextToLookAt_102 : decode cX2_nextToLookAt 102 = .ok (.getfield 59, 3) := by decide +kernel
theorem dX2_nextToLookAt_105 : decode cX2_nextToLookAt 105 = .ok (.if_icmp .ge 6, 3) := by decide +kernel
theorem dX2_nextToLookAt_108 : decode cX2_nextToLookAt 108 = .ok (.aload 6, 2) := by decide +kernel
theorem dX2_nextToLookAt_110 : decode cX2_nextToLookAt 110 = .ok (.astore_n 2, 1) := by decide +kernel
theorem dX2_nextToLookAt_111 : decode cX2_nextToLookAt 111 = .ok (.iinc 5 1, 3) := by decide +kernel
theorem dX2_nextToLookAt_114 : decode cX2_nextToLookAt 114 = .ok (.goto (-98), 3) := by decide +kernel
theorem dX2_nextToLookAt_117 : decode cX2_nextToLookAt 117 = .ok (.aload_n 2, 1) := by decide +kernel
theorem dX2_nextToLookAt_118 : decode cX2_nextToLookAt 118 = .ok (.ifnonnull 7, 3) := by decide +kernel
theorem dX2_nextToLookAt_121 : decode cX2_nextToLookAt 121 = .ok (.aload_n 1, 1) := by decide +kernel
theorem dX2_nextToLookAt_122 : decode cX2_nextToLookAt 122 = .ok (.goto 4, 3) := by decide +kernel
theorem dX2_nextToLookAt_125 : decode cX2_nextToLookAt 125 = .ok (.aload_n 2, 1) := by decide +kernel
theorem dX2_nextToLookAt_126 : decode cX2_nextToLookAt 126 = .ok (.areturn, 1) := by decide +kernel
theorem dX3_init_0 : decode cX3_init 0 = .ok (.aload_n 0, 1) := by decide +kernel
theorem dX3_init_1 : decode cX3_init 1 = .ok (.invokespecial 3, 3) := by decide +kernel
theorem dX3_init_4 : decode cX3_init 4 = .ok (.aload_n 0, 1) := by decide +kernel
theorem dX3_init_5 : decode cX3_init 5 = .ok (.iconst 1, 1) := by decide +kernel
theorem dX3_init_6 : decode cX3_init 6 = .ok (.putfield 9, 3) := by decide +kernel
theorem dX3_init_9 : decode cX3_init 9 = .ok (.aload_n 0, 1) := by decide +kernel
theorem dX3_init_10 : decode cX3_init 10 = .ok (.iconst 1, 1) := by decide +kernel
theorem dX3_init_11 : decode cX3_init 11 = .ok (.putfield 15, 3) := by decide +kernel
theorem dX3_init_14 : decode cX3_init 14 = .ok (.aload_n 0, 1) := by decide +kernel
theorem dX3_init_15 : decode cX3_init 15 = .ok (.aconst_null, 1) := by decide +kernel
theorem dX3_init_16 : decode cX3_init 16 = .ok (.putfield 18, 3) := by decide +kernel
theorem dX3_init_19 : decode cX3_init 19 = .ok (.aload_n 0, 1) := by decide +kernel
theorem dX3_init_20 : decode cX3_init 20 = .ok (.iconst (-1), 1) := by decide +kernel
theorem dX3_init_21 : decode cX3_init 21 = .ok (.putfield 22, 3) := by decide +kernel
theorem dX3_init_24 : decode cX3_init 24 = .ok (.aload_n 0, 1) := by decide +kernel
theorem dX3_init_25 : decode cX3_init 25 = .ok (.iconst (-1), 1) := by decide +kernel
theorem dX3_init_26 : decode cX3_init 26 = .ok (.putfield 25, 3) := by decide +kernel
theorem dX3_init_29 : decode cX3_init 29 = .ok (.aload_n 0, 1) := by decide +kernel
theorem dX3_init_30 : decode cX3_init 30 = .ok (.new 28, 3) := by decide +kernel
theorem dX3_init_33 : decode cX3_init 33 = .ok (.dup, 1) := by decide +kernel
theorem dX3_init_34 : decode cX3_init 34 = .ok (.invokespecial 30, 3) := by decide +kernel
theorem dX3_init_37 : decode cX3_init 37 = .ok (.putfield 31, 3) := by decide +kernel
theorem dX3_init_40 : decode cX3_init 40 = .ok (.aload_n 0, 1) := by decide +kernel
theorem dX3_init_41 : decode cX3_init 41 = .ok (.iload_n 1, 1) := by decide +kernel
theorem dX3_init_42 : decode cX3_init 42 = .ok (.putfield 35, 3) := by decide +kernel
theorem dX3_init_45 : decode cX3_init 45 = .ok (.return_, 1) := by decide +kernel
theorem dX3_isGone_0 : decode cX3_isGone 0 = .ok (.aload_n 0, 1) := by decide +kernel
theorem dX3_isGone_1 : decode cX3_isGone 1 = .ok (.getfield 15, 3) := by decide +kernel
theorem dX3_isGone_4 : decode cX3_isGone 4 = .ok (.ifCond .ne 7, 3) := by decide +kernel
theorem dX3_isGone_7 : decode cX3_isGone 7 = .ok (.iconst 1, 1) := by decide +kernel
theorem dX3_isGone_8 : decode cX3_isGone 8 = .ok (.goto 4, 3) := by decide +kernel
theorem dX3_isGone_11 : decode cX3_isGone 11 = .ok (.iconst 0, 1) := by decide +kernel
theorem dX3_isGone_12 : decode cX3_isGone 12 = .ok (.ireturn, 1) := by decide +kernel
theorem dX3_endLease_0 : decode cX3_endLease 0 = .ok (.aload_n 0, 1) := by decide +kernel
theorem dX3_endLease_1 : decode cX3_endLease 1 = .ok (.aconst_null, 1) := by decide +kernel
theorem dX3_endLease_2 : decode cX3_endLease 2 = .ok (.putfield 18, 3) := by decide +kernel
theorem dX3_endLease_5 : decode cX3_endLease 5 = .ok (.aload_n 0, 1) := by decide +kernel
theorem dX3_endLease_6 : decode cX3_endLease 6 = .ok (.iconst (-1), 1) := by decide +kernel
theorem dX3_endLease_7 : decode cX3_endLease 7 = .ok (.putfield 22, 3) := by decide +kernel
theorem dX3_endLease_10 : decode cX3_endLease 10 = .ok (.return_, 1) := by decide +kernel
theorem dX3_placeOfHolder_0 : decode cX3_placeOfHolder 0 = .ok (.iconst 0, 1) := by decide +kernel
theorem dX3_placeOfHolder_1 : decode cX3_placeOfHolder 1 = .ok (.istore_n 2, 1) := by decide +kernel
theorem dX3_placeOfHolder_2 : decode cX3_placeOfHolder 2 = .ok (.iload_n 2, 1) := by decide +kernel
theorem dX3_placeOfHolder_3 : decode cX3_placeOfHolder 3 = .ok (.aload_n 0, 1) := by decide +kernel
theorem dX3_placeOfHolder_4 : decode cX3_placeOfHolder 4 = .ok (.getfield 31, 3) := by decide +kernel
theorem dX3_placeOfHolder_7 : decode cX3_placeOfHolder 7 = .ok (.invokevirtual 38, 3) := by decide +kernel
theorem dX3_placeOfHolder_10 : decode cX3_placeOfHolder 10 = .ok (.if_icmp .ge 23, 3) := by decide +kernel
theorem dX3_placeOfHolder_13 : decode cX3_placeOfHolder 13 = .ok (.aload_n 0, 1) := by decide +kernel
theorem dX3_placeOfHolder_14 : decode cX3_placeOfHolder 14 = .ok (.getfield 31, 3) := by decide +kernel
theorem dX3_placeOfHolder_17 : decode cX3_placeOfHolder 17 = .ok (.iload_n 2, 1) := by decide +kernel
theorem dX3_placeOfHolder_18 : decode cX3_placeOfHolder 18 = .ok (.invokevirtual 42, 3) := by decide +kernel
theorem dX3_placeOfHolder_21 : decode cX3_placeOfHolder 21 = .ok (.aload_n 1, 1) := by decide +kernel
theorem dX3_placeOfHolder_22 : decode cX3_placeOfHolder 22 = .ok (.if_acmp .ne 5, 3) := by decide +kernel
theorem dX3_placeOfHolder_25 : decode cX3_placeOfHolder 25 = .ok (.iload_n 2, 1) := by decide +kernel
theorem dX3_placeOfHolder_26 : decode cX3_placeOfHolder 26 = .ok (.ireturn, 1) := by decide +kernel
theorem dX3_placeOfHolder_27 : decode cX3_placeOfHolder 27 = .ok (.iinc 2 1, 3) := by decide +kernel
theorem dX3_placeOfHolder_30 : decode cX3_placeOfHolder 30 = .ok (.goto (-28), 3) := by decide +kernel
theorem dX3_placeOfHolder_33 : decode cX3_placeOfHolder 33 = .ok (.iconst (-1), 1) := by decide +kernel
theorem dX3_placeOfHolder_34 : decode cX3_placeOfHolder 34 = .ok (.ireturn, 1) := by decide +kernel
theorem dX3_isHeldBy_0 : decode cX3_isHeldBy 0 = .ok (.aload_n 0, 1) := by decide +kernel
theorem dX3_isHeldBy_1 : decode cX3_isHeldBy 1 = .ok (.aload_n 1, 1) := by decide +kernel
theorem dX3_isHeldBy_2 : decode cX3_isHeldBy 2 = .ok (.invokevirtual 46, 3) := by decide +kernel
theorem dX3_isHeldBy_5 : decode cX3_isHeldBy 5 = .ok (.iconst (-1), 1) := by decide +kernel
theorem dX3_isHeldBy_6 : decode cX3_isHeldBy 6 = .ok (.if_icmp .eq 7, 3) := by decide +kernel
theorem dX3_isHeldBy_9 : decode cX3_isHeldBy 9 = .ok (.iconst 1, 1) := by decide +kernel
theorem dX3_isHeldBy_10 : decode cX3_isHeldBy 10 = .ok (.goto 4, 3) := by decide +kernel
theorem dX3_isHeldBy_13 : decode cX3_isHeldBy 13 = .ok (.iconst 0, 1) := by decide +kernel
theorem dX3_isHeldBy_14 : decode cX3_isHeldBy 14 = .ok (.ireturn, 1) := by decide +kernel
theorem dX3_forget_0 : decode cX3_forget 0 = .ok (.aload_n 0, 1) := by decide +kernel
theorem dX3_forget_1 : decode cX3_forget 1 = .ok (.aload_n 1, 1) := by decide +kernel
theorem dX3_forget_2 : decode cX3_forget 2 = .ok (.invokevirtual 46, 3) := by decide +kernel
theorem dX3_forget_5 : decode cX3_forget 5 = .ok (.istore_n 2, 1) := by decide +kernel
theorem dX3_forget_6 : decode cX3_forget 6 = .ok (.iload_n 2, 1) := by decide +kernel
theorem dX3_forget_7 : decode cX3_forget 7 = .ok (.ifCond .lt 12, 3) := by decide +kernel
theorem dX3_forget_10 : decode cX3_forget 10 = .ok (.aload_n 0, 1) := by decide +kernel
theorem dX3_forget_11 : decode cX3_forget 11 = .ok (.getfield 31, 3) := by decide +kernel
theorem dX3_forget_14 : decode cX3_forget 14 = .ok (.iload_n 2, 1) := by decide +kernel
theorem dX3_forget_15 : decode cX3_forget 15 = .ok (.invokevirtual 50, 3) := by decide +kernel
theorem dX3_forget_18 : decode cX3_forget 18 = .ok (.pop, 1) := by decide +kernel
theorem dX3_forget_19 : decode cX3_forget 19 = .ok (.aload_n 0, 1) := by decide +kernel
theorem dX3_forget_20 : decode cX3_forget 20 = .ok (.getfield 18, 3) := by decide +kernel
theorem dX3_forget_23 : decode cX3_forget 23 = .ok (.aload_n 1, 1) := by decide +kernel
theorem dX3_forget_24 : decode cX3_forget 24 = .ok (.if_acmp .ne 7, 3) := by decide +kernel
theorem dX3_forget_27 : decode cX3_forget 27 = .ok (.aload_n 0, 1) := by decide +kernel
theorem dX3_forget_28 : decode cX3_forget 28 = .ok (.invokevirtual 53, 3) := by decide +kernel
theorem dX3_forget_31 : decode cX3_forget 31 = .ok (.return_, 1) := by decide +kernel
theorem dX3_replaceHolder_0 : decode cX3_replaceHolder 0 = .ok (.aload_n 0, 1) := by decide +kernel
theorem dX3_replaceHolder_1 : decode cX3_replaceHolder 1 = .ok (.aload_n 1, 1) := by decide +kernel
theorem dX3_replaceHolder_2 : decode cX3_replaceHolder 2 = .ok (.invokevirtual 46, 3) := by decide +kernel
theorem dX3_replaceHolder_5 : decode cX3_replaceHolder 5 = .ok (.istore_n 3, 1) := by decide +kernel
theorem dX3_replaceHolder_6 : decode cX3_replaceHolder 6 = .ok (.iload_n 3, 1) := by decide +kernel
theorem dX3_replaceHolder_7 : decode cX3_replaceHolder 7 = .ok (.ifCond .lt 13, 3) := by decide +kernel
theorem dX3_replaceHolder_10 : decode cX3_replaceHolder 10 = .ok (.aload_n 0, 1) := by decide +kernel
theorem dX3_replaceHolder_11 : decode cX3_replaceHolder 11 = .ok (.getfield 31, 3) := by decide +kernel
theorem dX3_replaceHolder_14 : decode cX3_replaceHolder 14 = .ok (.iload_n 3, 1) := by decide +kernel
theorem dX3_replaceHolder_15 : decode cX3_replaceHolder 15 = .ok (.aload_n 2, 1) := by decide +kernel
theorem dX3_replaceHolder_16 : decode cX3_replaceHolder 16 = .ok (.invokevirtual 56, 3) := by decide +kernel
theorem dX3_replaceHolder_19 : decode cX3_replaceHolder 19 = .ok (.pop, 1) := by decide +kernel
theorem dX3_replaceHolder_20 : decode cX3_replaceHolder 20 = .ok (.aload_n 0, 1) := by decide +kernel
theorem dX3_replaceHolder_21 : decode cX3_replaceHolder 21 = .ok (.getfield 18, 3) := by decide +kernel
theorem dX3_replaceHolder_24 : decode cX3_replaceHolder 24 = .ok (.aload_n 1, 1) := by decide +kernel
theorem dX3_replaceHolder_25 : decode cX3_replaceHolder 25 = .ok (.if_acmp .ne 7, 3) := by decide +kernel
theorem dX3_replaceHolder_28 : decode cX3_replaceHolder 28 = .ok (.aload_n 0, 1) := by decide +kernel
theorem dX3_replaceHolder_29 : decode cX3_replaceHolder 29 = .ok (.invokevirtual 53, 3) := by decide +kernel
theorem dX3_replaceHolder_32 : decode cX3_replaceHolder 32 = .ok (.return_, 1) := by decide +kernel
theorem dX3_copiesInRack_0 : decode cX3_copiesInRack 0 = .ok (.iconst 0, 1) := by decide +kernel
theorem dX3_copiesInRack_1 : decode cX3_copiesInRack 1 = .ok (.istore_n 2, 1) := by decide +kernel
theorem dX3_copiesInRack_2 : decode cX3_copiesInRack 2 = .ok (.iconst 0, 1) := by decide +kernel
theorem dX3_copiesInRack_3 : decode cX3_copiesInRack 3 = .ok (.istore_n 3, 1) := by decide +kernel
theorem dX3_copiesInRack_4 : decode cX3_copiesInRack 4 = .ok (.iload_n 3, 1) := by decide +kernel
theorem dX3_copiesInRack_5 : decode cX3_copiesInRack 5 = .ok (.aload_n 0, 1) := by decide +kernel
theorem dX3_copiesInRack_6 : decode cX3_copiesInRack 6 = .ok (.getfield 31, 3) := by decide +kernel
theorem dX3_copiesInRack_9 : decode cX3_copiesInRack 9 = .ok (.invokevirtual 38, 3) := by decide +kernel
theorem dX3_copiesInRack_12 : decode cX3_copiesInRack 12 = .ok (.if_icmp .ge 30, 3) := by decide +kernel
theorem dX3_copiesInRack_15 : decode cX3_copiesInRack 15 = .ok (.aload_n 0, 1) := by decide +kernel
theorem dX3_copiesInRack_16 : decode cX3_copiesInRack 16 = .ok (.getfield 31, 3) := by decide +kernel
theorem dX3_copiesInRack_19 : decode cX3_copiesInRack 19 = .ok (.iload_n 3, 1) := by decide +kernel
theorem dX3_copiesInRack_20 : decode cX3_copiesInRack 20 = .ok (.invokevirtual 42, 3) := by decide +kernel
theorem dX3_copiesInRack_23 : decode cX3_copiesInRack 23 = .ok (.checkcast 60, 3) := by decide +kernel
theorem dX3_copiesInRack_26 : decode cX3_copiesInRack 26 = .ok (.getfield 62, 3) := by decide +kernel
theorem dX3_copiesInRack_29 : decode cX3_copiesInRack 29 = .ok (.iload_n 1, 1) := by decide +kernel
theorem dX3_copiesInRack_30 : decode cX3_copiesInRack 30 = .ok (.if_icmp .ne 6, 3) := by decide +kernel
theorem dX3_copiesInRack_33 : decode cX3_copiesInRack 33 = .ok (.iinc 2 1, 3) := by decide +kernel
theorem dX3_copiesInRack_36 : decode cX3_copiesInRack 36 = .ok (.iinc 3 1, 3) := by decide +kernel
theorem dX3_copiesInRack_39 : decode cX3_copiesInRack 39 = .ok (.goto (-35), 3) := by decide +kernel
theorem dX3_copiesInRack_42 : decode cX3_copiesInRack 42 = .ok (.iload_n 2, 1) := by decide +kernel
theorem dX3_copiesInRack_43 : decode cX3_copiesInRack 43 = .ok (.ireturn, 1) := by decide +kernel
theorem dABC_init_0 : decode cABC_init 0 = .ok (.aload_n 0, 1) := by decide +kernel
theorem dABC_init_1 : decode cABC_init 1 = .ok (.invokespecial 1, 3) := by decide +kernel
theorem dABC_init_4 : decode cABC_init 4 = .ok (.return_, 1) := by decide +kernel
theorem dABL_init_0 : decode cABL_init 0 = .ok (.aload_n 0, 1) := by decide +kernel
theorem dABL_init_1 : decode cABL_init 1 = .ok (.invokespecial 1, 3) := by decide +kernel
theorem dABL_init_4 : decode cABL_init 4 = .ok (.aload_n 0, 1) := by decide +kernel
theorem dABL_init_5 : decode cABL_init 5 = .ok (.iconst 0, 1) := by decide +kernel
theorem dABL_init_6 : decode cABL_init 6 = .ok (.putfield 7, 3) := by decide +kernel
theorem dABL_init_9 : decode cABL_init 9 = .ok (.return_, 1) := by decide +kernel
theorem dAL_init_0 : decode cAL_init 0 = .ok (.aload_n 0, 1) := by decide +kernel
theorem dAL_init_1 : decode cAL_init 1 = .ok (.invokespecial 1, 3) := by decide +kernel
theorem dAL_init_4 : decode cAL_init 4 = .ok (.aload_n 0, 1) := by decide +kernel
theorem dAL_init_5 : decode cAL_init 5 = .ok (.getstatic 39, 3) := by decide +kernel
theorem dAL_init_8 : decode cAL_init 8 = .ok (.putfield 9, 3) := by decide +kernel
theorem dAL_init_11 : decode cAL_init 11 = .ok (.return_, 1) := by decide +kernel
theorem dAL_grow1_0 : decode cAL_grow1 0 = .ok (.aload_n 0, 1) := by decide +kernel
theorem dAL_grow1_1 : decode cAL_grow1 1 = .ok (.getfield 9, 3) := by decide +kernel
theorem dAL_grow1_4 : decode cAL_grow1 4 = .ok (.arraylength, 1) := by decide +kernel
theorem dAL_grow1_5 : decode cAL_grow1 5 = .ok (.istore_n 2, 1) := by decide +kernel
theorem dAL_grow1_6 : decode cAL_grow1 6 = .ok (.iload_n 2, 1) := by decide +kernel
theorem dAL_grow1_7 : decode cAL_grow1 7 = .ok (.ifCond .gt 13, 3) := by decide +kernel
theorem dAL_grow1_10 : decode cAL_grow1 10 = .ok (.aload_n 0, 1) := by decide +kernel
theorem dAL_grow1_11 : decode cAL_grow1 11 = .ok (.getfield 9, 3) := by decide +kernel
theorem dAL_grow1_14 : decode cAL_grow1 14 = .ok (.getstatic 39, 3) := by decide +kernel
theorem dAL_grow1_17 : decode cAL_grow1 17 = .ok (.if_acmp .eq 28, 3) := by decide +kernel
theorem dAL_grow1_20 : decode cAL_grow1 20 = .ok (.iload_n 2, 1) := by decide +kernel
theorem dAL_grow1_21 : decode cAL_grow1 21 = .ok (.iload_n 1, 1) := by decide +kernel
theorem dAL_grow1_22 : decode cAL_grow1 22 = .ok (.iload_n 2, 1) := by decide +kernel
theorem dAL_grow1_23 : decode cAL_grow1 23 = .ok (.isub, 1) := by decide +kernel
theorem dAL_grow1_24 : decode cAL_grow1 24 = .ok (.iload_n 2, 1) := by decide +kernel
theorem dAL_grow1_25 : decode cAL_grow1 25 = .ok (.iconst 1, 1) := by decide +kernel
theorem dAL_grow1_26 : decode cAL_grow1 26 = .ok (.ishr, 1) := by decide +kernel
theorem dAL_grow1_27 : decode cAL_grow1 27 = .ok (.invokestatic 73, 3) := by decide +kernel
theorem dAL_grow1_30 : decode cAL_grow1 30 = .ok (.istore_n 3, 1) := by decide +kernel
theorem dAL_grow1_31 : decode cAL_grow1 31 = .ok (.aload_n 0, 1) := by decide +kernel
theorem dAL_grow1_32 : decode cAL_grow1 32 = .ok (.aload_n 0, 1) := by decide +kernel
theorem dAL_grow1_33 : decode cAL_grow1 33 = .ok (.getfield 9, 3) := by decide +kernel
theorem dAL_grow1_36 : decode cAL_grow1 36 = .ok (.iload_n 3, 1) := by decide +kernel
theorem dAL_grow1_37 : decode cAL_grow1 37 = .ok (.invokestatic 66, 3) := by decide +kernel
theorem dAL_grow1_40 : decode cAL_grow1 40 = .ok (.dup_x1, 1) := by decide +kernel
theorem dAL_grow1_41 : decode cAL_grow1 41 = .ok (.putfield 9, 3) := by decide +kernel
theorem dAL_grow1_44 : decode cAL_grow1 44 = .ok (.areturn, 1) := by decide +kernel
theorem dAL_grow1_45 : decode cAL_grow1 45 = .ok (.aload_n 0, 1) := by decide +kernel
theorem dAL_grow1_46 : decode cAL_grow1 46 = .ok (.bipush 10, 2) := by decide +kernel
theorem dAL_grow1_48 : decode cAL_grow1 48 = .ok (.iload_n 1, 1) := by decide +kernel
theorem dAL_grow1_49 : decode cAL_grow1 49 = .ok (.invokestatic 79, 3) := by decide +kernel
theorem dAL_grow1_52 : decode cAL_grow1 52 = .ok (.anewarray 7, 3) := by decide +kernel
theorem dAL_grow1_55 : decode cAL_grow1 55 = .ok (.dup_x1, 1) := by decide +kernel
theorem dAL_grow1_56 : decode cAL_grow1 56 = .ok (.putfield 9, 3) := by decide +kernel
theorem dAL_grow1_59 : decode cAL_grow1 59 = .ok (.areturn, 1) := by decide +kernel
theorem dAL_grow0_0 : decode cAL_grow0 0 = .ok (.aload_n 0, 1) := by decide +kernel
theorem dAL_grow0_1 : decode cAL_grow0 1 = .ok (.aload_n 0, 1) := by decide +kernel
theorem dAL_grow0_2 : decode cAL_grow0 2 = .ok (.getfield 48, 3) := by decide +kernel
theorem dAL_grow0_5 : decode cAL_grow0 5 = .ok (.iconst 1, 1) := by decide +kernel
theorem dAL_grow0_6 : decode cAL_grow0 6 = .ok (.iadd, 1) := by decide +kernel
theorem dAL_grow0_7 : decode cAL_grow0 7 = .ok (.invokevirtual 69, 3) := by decide +kernel
theorem dAL_grow0_10 : decode cAL_grow0 10 = .ok (.areturn, 1) := by decide +kernel
theorem dAL_size_0 : decode cAL_size 0 = .ok (.aload_n 0, 1) := by decide +kernel
theorem dAL_size_1 : decode cAL_size 1 = .ok (.getfield 48, 3) := by decide +kernel
theorem dAL_size_4 : decode cAL_size 4 = .ok (.ireturn, 1) := by decide +kernel
theorem dAL_elementData_0 : decode cAL_elementData 0 = .ok (.aload_n 0, 1) := by decide +kernel
theorem dAL_elementData_1 : decode cAL_elementData 1 = .ok (.getfield 9, 3) := by decide +kernel
theorem dAL_elementData_4 : decode cAL_elementData 4 = .ok (.iload_n 1, 1) := by decide +kernel
theorem dAL_elementData_5 : decode cAL_elementData 5 = .ok (.aaload, 1) := by decide +kernel
theorem dAL_elementData_6 : decode cAL_elementData 6 = .ok (.areturn, 1) := by decide +kernel
theorem dAL_get_0 : decode cAL_get 0 = .ok (.iload_n 1, 1) := by decide +kernel
theorem dAL_get_1 : decode cAL_get 1 = .ok (.aload_n 0, 1) := by decide +kernel
theorem dAL_get_2 : decode cAL_get 2 = .ok (.getfield 48, 3) := by decide +kernel
theorem dAL_get_5 : decode cAL_get 5 = .ok (.invokestatic 118, 3) := by decide +kernel
theorem dAL_get_8 : decode cAL_get 8 = .ok (.pop, 1) := by decide +kernel
theorem dAL_get_9 : decode cAL_get 9 = .ok (.aload_n 0, 1) := by decide +kernel
theorem dAL_get_10 : decode cAL_get 10 = .ok (.iload_n 1, 1) := by decide +kernel
theorem dAL_get_11 : decode cAL_get 11 = .ok (.invokevirtual 123, 3) := by decide +kernel
theorem dAL_get_14 : decode cAL_get 14 = .ok (.areturn, 1) := by decide +kernel
theorem dAL_set_0 : decode cAL_set 0 = .ok (.iload_n 1, 1) := by decide +kernel
theorem dAL_set_1 : decode cAL_set 1 = .ok (.aload_n 0, 1) := by decide +kernel
theorem dAL_set_2 : decode cAL_set 2 = .ok (.getfield 48, 3) := by decide +kernel
theorem dAL_set_5 : decode cAL_set 5 = .ok (.invokestatic 118, 3) := by decide +kernel
theorem dAL_set_8 : decode cAL_set 8 = .ok (.pop, 1) := by decide +kernel
theorem dAL_set_9 : decode cAL_set 9 = .ok (.aload_n 0, 1) := by decide +kernel
theorem dAL_set_10 : decode cAL_set 10 = .ok (.iload_n 1, 1) := by decide +kernel
theorem dAL_set_11 : decode cAL_set 11 = .ok (.invokevirtual 123, 3) := by decide +kernel
theorem dAL_set_14 : decode cAL_set 14 = .ok (.astore_n 3, 1) := by decide +kernel
theorem dAL_set_15 : decode cAL_set 15 = .ok (.aload_n 0, 1) := by decide +kernel
theorem dAL_set_16 : decode cAL_set 16 = .ok (.getfield 9, 3) := by decide +kernel
theorem dAL_set_19 : decode cAL_set 19 = .ok (.iload_n 1, 1) := by decide +kernel
theorem dAL_set_20 : decode cAL_set 20 = .ok (.aload_n 2, 1) := by decide +kernel
theorem dAL_set_21 : decode cAL_set 21 = .ok (.aastore, 1) := by decide +kernel
theorem dAL_set_22 : decode cAL_set 22 = .ok (.aload_n 3, 1) := by decide +kernel
theorem dAL_set_23 : decode cAL_set 23 = .ok (.areturn, 1) := by decide +kernel
theorem dAL_add3_0 : decode cAL_add3 0 = .ok (.iload_n 3, 1) := by decide +kernel
theorem dAL_add3_1 : decode cAL_add3 1 = .ok (.aload_n 2, 1) := by decide +kernel
theorem dAL_add3_2 : decode cAL_add3 2 = .ok (.arraylength, 1) := by decide +kernel
theorem dAL_add3_3 : decode cAL_add3 3 = .ok (.if_icmp .ne 8, 3) := by decide +kernel
theorem dAL_add3_6 : decode cAL_add3 6 = .ok (.aload_n 0, 1) := by decide +kernel
theorem dAL_add3_7 : decode cAL_add3 7 = .ok (.invokevirtual 129, 3) := by decide +kernel
theorem dAL_add3_10 : decode cAL_add3 10 = .ok (.astore_n 2, 1) := by decide +kernel
theorem dAL_add3_11 : decode cAL_add3 11 = .ok (.aload_n 2, 1) := by decide +kernel
theorem dAL_add3_12 : decode cAL_add3 12 = .ok (.iload_n 3, 1) := by decide +kernel
theorem dAL_add3_13 : decode cAL_add3 13 = .ok (.aload_n 1, 1) := by decide +kernel
theorem dAL_add3_14 : decode cAL_add3 14 = .ok (.aastore, 1) := by decide +kernel
theorem dAL_add3_15 : decode cAL_add3 15 = .ok (.aload_n 0, 1) := by decide +kernel
theorem dAL_add3_16 : decode cAL_add3 16 = .ok (.iload_n 3, 1) := by decide +kernel
theorem dAL_add3_17 : decode cAL_add3 17 = .ok (.iconst 1, 1) := by decide +kernel
theorem dAL_add3_18 : decode cAL_add3 18 = .ok (.iadd, 1) := by decide +kernel
theorem dAL_add3_19 : decode cAL_add3 19 = .ok (.putfield 48, 3) := by decide +kernel
theorem dAL_add3_22 : decode cAL_add3 22 = .ok (.return_, 1) := by decide +kernel
theorem dAL_add1_0 : decode cAL_add1 0 = .ok (.aload_n 0, 1) := by decide +kernel
theorem dAL_add1_1 : decode cAL_add1 1 = .ok (.dup, 1) := by decide +kernel
theorem dAL_add1_2 : decode cAL_add1 2 = .ok (.getfield 63, 3) := by decide +kernel
theorem dAL_add1_5 : decode cAL_add1 5 = .ok (.iconst 1, 1) := by decide +kernel
theorem dAL_add1_6 : decode cAL_add1 6 = .ok (.iadd, 1) := by decide +kernel
theorem dAL_add1_7 : decode cAL_add1 7 = .ok (.putfield 63, 3) := by decide +kernel
theorem dAL_add1_10 : decode cAL_add1 10 = .ok (.aload_n 0, 1) := by decide +kernel
theorem dAL_add1_11 : decode cAL_add1 11 = .ok (.aload_n 1, 1) := by decide +kernel
theorem dAL_add1_12 : decode cAL_add1 12 = .ok (.aload_n 0, 1) := by decide +kernel
theorem dAL_add1_13 : decode cAL_add1 13 = .ok (.getfield 9, 3) := by decide +kernel
theorem dAL_add1_16 : decode cAL_add1 16 = .ok (.aload_n 0, 1) := by decide +kernel
theorem dAL_add1_17 : decode cAL_add1 17 = .ok (.getfield 48, 3) := by decide +kernel
theorem dAL_add1_20 : decode cAL_add1 20 = .ok (.invokevirtual 131, 3) := by decide +kernel
theorem dAL_add1_23 : decode cAL_add1 23 = .ok (.iconst 1, 1) := by decide +kernel
theorem dAL_add1_24 : decode cAL_add1 24 = .ok (.ireturn, 1) := by decide +kernel
theorem dAL_remove_0 : decode cAL_remove 0 = .ok (.iload_n 1, 1) := by decide +kernel
theorem dAL_remove_1 : decode cAL_remove 1 = .ok (.aload_n 0, 1) := by decide +kernel
theorem dAL_remove_2 : decode cAL_remove 2 = .ok (.getfield 48, 3) := by decide +kernel
theorem dAL_remove_5 : decode cAL_remove 5 = .ok (.invokestatic 118, 3) := by decide +kernel
theorem dAL_remove_8 : decode cAL_remove 8 = .ok (.pop, 1) := by decide +kernel
theorem dAL_remove_9 : decode cAL_remove 9 = .ok (.aload_n 0, 1) := by decide +kernel
theorem dAL_remove_10 : decode cAL_remove 10 = .ok (.getfield 9, 3) := by decide +kernel
theorem dAL_remove_13 : decode cAL_remove 13 = .ok (.astore_n 2, 1) := by decide +kernel
theorem dAL_remove_14 : decode cAL_remove 14 = .ok (.aload_n 2, 1) := by decide +kernel
theorem dAL_remove_15 : decode cAL_remove 15 = .ok (.iload_n 1, 1) := by decide +kernel
theorem dAL_remove_16 : decode cAL_remove 16 = .ok (.aaload, 1) := by decide +kernel
theorem dAL_remove_17 : decode cAL_remove 17 = .ok (.astore_n 3, 1) := by decide +kernel
theorem dAL_remove_18 : decode cAL_remove 18 = .ok (.aload_n 0, 1) := by decide +kernel
theorem dAL_remove_19 : decode cAL_remove 19 = .ok (.aload_n 2, 1) := by decide +kernel
theorem dAL_remove_20 : decode cAL_remove 20 = .ok (.iload_n 1, 1) := by decide +kernel
theorem dAL_remove_21 : decode cAL_remove 21 = .ok (.invokevirtual 144, 3) := by decide +kernel
theorem dAL_remove_24 : decode cAL_remove 24 = .ok (.aload_n 3, 1) := by decide +kernel
theorem dAL_remove_25 : decode cAL_remove 25 = .ok (.areturn, 1) := by decide +kernel
theorem dAL_fastRemove_0 : decode cAL_fastRemove 0 = .ok (.aload_n 0, 1) := by decide +kernel
theorem dAL_fastRemove_1 : decode cAL_fastRemove 1 = .ok (.dup, 1) := by decide +kernel
theorem dAL_fastRemove_2 : decode cAL_fastRemove 2 = .ok (.getfield 63, 3) := by decide +kernel
theorem dAL_fastRemove_5 : decode cAL_fastRemove 5 = .ok (.iconst 1, 1) := by decide +kernel
theorem dAL_fastRemove_6 : decode cAL_fastRemove 6 = .ok (.iadd, 1) := by decide +kernel
theorem dAL_fastRemove_7 : decode cAL_fastRemove 7 = .ok (.putfield 63, 3) := by decide +kernel
theorem dAL_fastRemove_10 : decode cAL_fastRemove 10 = .ok (.aload_n 0, 1) := by decide +kernel
theorem dAL_fastRemove_11 : decode cAL_fastRemove 11 = .ok (.getfield 48, 3) := by decide +kernel
theorem dAL_fastRemove_14 : decode cAL_fastRemove 14 = .ok (.iconst 1, 1) := by decide +kernel
theorem dAL_fastRemove_15 : decode cAL_fastRemove 15 = .ok (.isub, 1) := by decide +kernel
theorem dAL_fastRemove_16 : decode cAL_fastRemove 16 = .ok (.dup, 1) := by decide +kernel
theorem dAL_fastRemove_17 : decode cAL_fastRemove 17 = .ok (.istore_n 3, 1) := by decide +kernel
theorem dAL_fastRemove_18 : decode cAL_fastRemove 18 = .ok (.iload_n 2, 1) := by decide +kernel
theorem dAL_fastRemove_19 : decode cAL_fastRemove 19 = .ok (.if_icmp .le 15, 3) := by decide +kernel
theorem dAL_fastRemove_22 : decode cAL_fastRemove 22 = .ok (.aload_n 1, 1) := by decide +kernel
theorem dAL_fastRemove_23 : decode cAL_fastRemove 23 = .ok (.iload_n 2, 1) := by decide +kernel
theorem dAL_fastRemove_24 : decode cAL_fastRemove 24 = .ok (.iconst 1, 1) := by decide +kernel
theorem dAL_fastRemove_25 : decode cAL_fastRemove 25 = .ok (.iadd, 1) := by decide +kernel
theorem dAL_fastRemove_26 : decode cAL_fastRemove 26 = .ok (.aload_n 1, 1) := by decide +kernel
theorem dAL_fastRemove_27 : decode cAL_fastRemove 27 = .ok (.iload_n 2, 1) := by decide +kernel
theorem dAL_fastRemove_28 : decode cAL_fastRemove 28 = .ok (.iload_n 3, 1) := by decide +kernel
theorem dAL_fastRemove_29 : decode cAL_fastRemove 29 = .ok (.iload_n 2, 1) := by decide +kernel
theorem dAL_fastRemove_30 : decode cAL_fastRemove 30 = .ok (.isub, 1) := by decide +kernel
theorem dAL_fastRemove_31 : decode cAL_fastRemove 31 = .ok (.invokestatic 112, 3) := by decide +kernel
theorem dAL_fastRemove_34 : decode cAL_fastRemove 34 = .ok (.aload_n 1, 1) := by decide +kernel
theorem dAL_fastRemove_35 : decode cAL_fastRemove 35 = .ok (.aload_n 0, 1) := by decide +kernel
theorem dAL_fastRemove_36 : decode cAL_fastRemove 36 = .ok (.iload_n 3, 1) := by decide +kernel
theorem dAL_fastRemove_37 : decode cAL_fastRemove 37 = .ok (.dup_x1, 1) := by decide +kernel
theorem dAL_fastRemove_38 : decode cAL_fastRemove 38 = .ok (.putfield 48, 3) := by decide +kernel
theorem dAL_fastRemove_41 : decode cAL_fastRemove 41 = .ok (.aconst_null, 1) := by decide +kernel
theorem dAL_fastRemove_42 : decode cAL_fastRemove 42 = .ok (.aastore, 1) := by decide +kernel
theorem dAL_fastRemove_43 : decode cAL_fastRemove 43 = .ok (.return_, 1) := by decide +kernel
theorem dAL_clear_0 : decode cAL_clear 0 = .ok (.aload_n 0, 1) := by decide +kernel
theorem dAL_clear_1 : decode cAL_clear 1 = .ok (.dup, 1) := by decide +kernel
theorem dAL_clear_2 : decode cAL_clear 2 = .ok (.getfield 63, 3) := by decide +kernel
theorem dAL_clear_5 : decode cAL_clear 5 = .ok (.iconst 1, 1) := by decide +kernel
theorem dAL_clear_6 : decode cAL_clear 6 = .ok (.iadd, 1) := by decide +kernel
theorem dAL_clear_7 : decode cAL_clear 7 = .ok (.putfield 63, 3) := by decide +kernel
theorem dAL_clear_10 : decode cAL_clear 10 = .ok (.aload_n 0, 1) := by decide +kernel
theorem dAL_clear_11 : decode cAL_clear 11 = .ok (.getfield 9, 3) := by decide +kernel
theorem dAL_clear_14 : decode cAL_clear 14 = .ok (.astore_n 1, 1) := by decide +kernel
theorem dAL_clear_15 : decode cAL_clear 15 = .ok (.aload_n 0, 1) := by decide +kernel
theorem dAL_clear_16 : decode cAL_clear 16 = .ok (.getfield 48, 3) := by decide +kernel
theorem dAL_clear_19 : decode cAL_clear 19 = .ok (.istore_n 2, 1) := by decide +kernel
theorem dAL_clear_20 : decode cAL_clear 20 = .ok (.aload_n 0, 1) := by decide +kernel
theorem dAL_clear_21 : decode cAL_clear 21 = .ok (.iconst 0, 1) := by decide +kernel
theorem dAL_clear_22 : decode cAL_clear 22 = .ok (.dup_x1, 1) := by decide +kernel
theorem dAL_clear_23 : decode cAL_clear 23 = .ok (.putfield 48, 3) := by decide +kernel
theorem dAL_clear_26 : decode cAL_clear 26 = .ok (.istore_n 3, 1) := by decide +kernel
theorem dAL_clear_27 : decode cAL_clear 27 = .ok (.iload_n 3, 1) := by decide +kernel
theorem dAL_clear_28 : decode cAL_clear 28 = .ok (.iload_n 2, 1) := by decide +kernel
theorem dAL_clear_29 : decode cAL_clear 29 = .ok (.if_icmp .ge 13, 3) := by decide +kernel
theorem dAL_clear_32 : decode cAL_clear 32 = .ok (.aload_n 1, 1) := by decide +kernel
theorem dAL_clear_33 : decode cAL_clear 33 = .ok (.iload_n 3, 1) := by decide +kernel
theorem dAL_clear_34 : decode cAL_clear 34 = .ok (.aconst_null, 1) := by decide +kernel
theorem dAL_clear_35 : decode cAL_clear 35 = .ok (.aastore, 1) := by decide +kernel
theorem dAL_clear_36 : decode cAL_clear 36 = .ok (.iinc 3 1, 3) := by decide +kernel
theorem dAL_clear_39 : decode cAL_clear 39 = .ok (.goto (-12), 3) := by decide +kernel
theorem dAL_clear_42 : decode cAL_clear 42 = .ok (.return_, 1) := by decide +kernel
theorem dARR_copyOf2_0 : decode cARR_copyOf2 0 = .ok (.aload_n 0, 1) := by decide +kernel
theorem dARR_copyOf2_1 : decode cARR_copyOf2 1 = .ok (.iload_n 1, 1) := by decide +kernel
theorem dARR_copyOf2_2 : decode cARR_copyOf2 2 = .ok (.aload_n 0, 1) := by decide +kernel
theorem dARR_copyOf2_3 : decode cARR_copyOf2 3 = .ok (.invokevirtual 86, 3) := by decide +kernel
theorem dARR_copyOf2_6 : decode cARR_copyOf2 6 = .ok (.invokestatic 300, 3) := by decide +kernel
theorem dARR_copyOf2_9 : decode cARR_copyOf2 9 = .ok (.areturn, 1) := by decide +kernel
theorem dARR_copyOf3_0 : decode cARR_copyOf3 0 = .ok (.aload_n 2, 1) := by decide +kernel
theorem dARR_copyOf3_1 : decode cARR_copyOf3 1 = .ok (.ldc 110, 2) := by decide +kernel
theorem dARR_copyOf3_3 : decode cARR_copyOf3 3 = .ok (.if_acmp .ne 10, 3) := by decide +kernel
theorem dARR_copyOf3_6 : decode cARR_copyOf3 6 = .ok (.iload_n 1, 1) := by decide +kernel
theorem dARR_copyOf3_7 : decode cARR_copyOf3 7 = .ok (.anewarray 2, 3) := by decide +kernel
theorem dARR_copyOf3_10 : decode cARR_copyOf3 10 = .ok (.goto 14, 3) := by decide +kernel
theorem dARR_copyOf3_13 : decode cARR_copyOf3 13 = .ok (.aload_n 2, 1) := by decide +kernel
theorem dARR_copyOf3_14 : decode cARR_copyOf3 14 = .ok (.invokevirtual 90, 3) := by decide +kernel
theorem dARR_copyOf3_17 : decode cARR_copyOf3 17 = .ok (.iload_n 1, 1) := by decide +kernel
theorem dARR_copyOf3_18 : decode cARR_copyOf3 18 = .ok (.invokestatic 95, 3) := by decide +kernel
theorem dARR_copyOf3_21 : decode cARR_copyOf3 21 = .ok (.checkcast 110, 3) := by decide +kernel
theorem dARR_copyOf3_24 : decode cARR_copyOf3 24 = .ok (.astore_n 3, 1) := by decide +kernel
theorem dARR_copyOf3_25 : decode cARR_copyOf3 25 = .ok (.aload_n 0, 1) := by decide +kernel
theorem dARR_copyOf3_26 : decode cARR_copyOf3 26 = .ok (.iconst 0, 1) := by decide +kernel
theorem dARR_copyOf3_27 : decode cARR_copyOf3 27 = .ok (.aload_n 3, 1) := by decide +kernel
theorem dARR_copyOf3_28 : decode cARR_copyOf3 28 = .ok (.iconst 0, 1) := by decide +kernel
theorem dARR_copyOf3_29 : decode cARR_copyOf3 29 = .ok (.aload_n 0, 1) := by decide +kernel
theorem dARR_copyOf3_30 : decode cARR_copyOf3 30 = .ok (.arraylength, 1) := by decide +kernel
theorem dARR_copyOf3_31 : decode cARR_copyOf3 31 = .ok (.iload_n 1, 1) := by decide +kernel
theorem dARR_copyOf3_32 : decode cARR_copyOf3 32 = .ok (.invokestatic 304, 3) := by decide +kernel
theorem dARR_copyOf3_35 : decode cARR_copyOf3 35 = .ok (.invokestatic 150, 3) := by decide +kernel
theorem dARR_copyOf3_38 : decode cARR_copyOf3 38 = .ok (.aload_n 3, 1) := by decide +kernel
theorem dARR_copyOf3_39 : decode cARR_copyOf3 39 = .ok (.areturn, 1) := by decide +kernel
theorem dOBJ_checkIndex_0 : decode cOBJ_checkIndex 0 = .ok (.iload_n 0, 1) := by decide +kernel
theorem dOBJ_checkIndex_1 : decode cOBJ_checkIndex 1 = .ok (.iload_n 1, 1) := by decide +kernel
theorem dOBJ_checkIndex_2 : decode cOBJ_checkIndex 2 = .ok (.aconst_null, 1) := by decide +kernel
theorem dOBJ_checkIndex_3 : decode cOBJ_checkIndex 3 = .ok (.invokestatic 105, 3) := by decide +kernel
theorem dOBJ_checkIndex_6 : decode cOBJ_checkIndex 6 = .ok (.ireturn, 1) := by decide +kernel
theorem dASU_newLength_0 : decode cASU_newLength 0 = .ok (.iload_n 0, 1) := by decide +kernel
theorem dASU_newLength_1 : decode cASU_newLength 1 = .ok (.iload_n 1, 1) := by decide +kernel
theorem dASU_newLength_2 : decode cASU_newLength 2 = .ok (.iload_n 2, 1) := by decide +kernel
theorem dASU_newLength_3 : decode cASU_newLength 3 = .ok (.invokestatic 194, 3) := by decide +kernel
theorem dASU_newLength_6 : decode cASU_newLength 6 = .ok (.iadd, 1) := by decide +kernel
theorem dASU_newLength_7 : decode cASU_newLength 7 = .ok (.istore_n 3, 1) := by decide +kernel
theorem dASU_newLength_8 : decode cASU_newLength 8 = .ok (.iconst 0, 1) := by decide +kernel
theorem dASU_newLength_9 : decode cASU_newLength 9 = .ok (.iload_n 3, 1) := by decide +kernel
theorem dASU_newLength_10 : decode cASU_newLength 10 = .ok (.if_icmp .ge 11, 3) := by decide +kernel
theorem dASU_newLength_13 : decode cASU_newLength 13 = .ok (.iload_n 3, 1) := by decide +kernel
theorem dASU_newLength_14 : decode cASU_newLength 14 = .ok (.ldc 200, 2) := by decide +kernel
theorem dASU_newLength_16 : decode cASU_newLength 16 = .ok (.if_icmp .gt 5, 3) := by decide +kernel
theorem dASU_newLength_19 : decode cASU_newLength 19 = .ok (.iload_n 3, 1) := by decide +kernel
theorem dASU_newLength_20 : decode cASU_newLength 20 = .ok (.ireturn, 1) := by decide +kernel
theorem dASU_newLength_21 : decode cASU_newLength 21 = .ok (.iload_n 0, 1) := by decide +kernel
theorem dASU_newLength_22 : decode cASU_newLength 22 = .ok (.iload_n 1, 1) := by decide +kernel
theorem dASU_newLength_23 : decode cASU_newLength 23 = .ok (.invokestatic 201, 3) := by decide +kernel
theorem dASU_newLength_26 : decode cASU_newLength 26 = .ok (.ireturn, 1) := by decide +kernel
theorem dASU_hugeLength_0 : decode cASU_hugeLength 0 = .ok (.iload_n 0, 1) := by decide +kernel
theorem dASU_hugeLength_1 : decode cASU_hugeLength 1 = .ok (.iload_n 1, 1) := by decide +kernel
theorem dASU_hugeLength_2 : decode cASU_hugeLength 2 = .ok (.iadd, 1) := by decide +kernel
theorem dASU_hugeLength_3 : decode cASU_hugeLength 3 = .ok (.istore_n 2, 1) := by decide +kernel
theorem dASU_hugeLength_4 : decode cASU_hugeLength 4 = .ok (.iload_n 2, 1) := by decide +kernel
theorem dASU_hugeLength_5 : decode cASU_hugeLength 5 = .ok (.ifCond .ge 44, 3) := by decide +kernel
theorem dASU_hugeLength_8 : decode cASU_hugeLength 8 = .ok (.new 204, 3) := by decide +kernel
theorem dASU_hugeLength_11 : decode cASU_hugeLength 11 = .ok (.dup, 1) := by decide +kernel
theorem dASU_hugeLength_12 : decode cASU_hugeLength 12 = .ok (.new 89, 3) := by decide +kernel
theorem dASU_hugeLength_15 : decode cASU_hugeLength 15 = .ok (.dup, 1) := by decide +kernel
theorem dASU_hugeLength_16 : decode cASU_hugeLength 16 = .ok (.invokespecial 91, 3) := by decide +kernel
theorem dASU_hugeLength_19 : decode cASU_hugeLength 19 = .ok (.ldc 206, 2) := by decide +kernel
theorem dASU_hugeLength_21 : decode cASU_hugeLength 21 = .ok (.invokevirtual 94, 3) := by decide +kernel
theorem dASU_hugeLength_24 : decode cASU_hugeLength 24 = .ok (.iload_n 0, 1) := by decide +kernel
theorem dASU_hugeLength_25 : decode cASU_hugeLength 25 = .ok (.invokevirtual 98, 3) := by decide +kernel
theorem dASU_hugeLength_28 : decode cASU_hugeLength 28 = .ok (.ldc 208, 2) := by decide +kernel
theorem dASU_hugeLength_30 : decode cASU_hugeLength 30 = .ok (.invokevirtual 94, 3) := by decide +kernel
theorem dASU_hugeLength_33 : decode cASU_hugeLength 33 = .ok (.iload_n 1, 1) := by decide +kernel
theorem dASU_hugeLength_34 : decode cASU_hugeLength 34 = .ok (.invokevirtual 98, 3) := by decide +kernel
theorem dASU_hugeLength_37 : decode cASU_hugeLength 37 = .ok (.ldc 210, 2) := by decide +kernel
theorem dASU_hugeLength_39 : decode cASU_hugeLength 39 = .ok (.invokevirtual 94, 3) := by decide +kernel
theorem dASU_hugeLength_42 : decode cASU_hugeLength 42 = .ok (.invokevirtual 101, 3) := by decide +kernel
theorem dASU_hugeLength_45 : decode cASU_hugeLength 45 = .ok (.invokespecial 212, 3) := by decide +kernel
theorem dASU_hugeLength_48 : decode cASU_hugeLength 48 = .ok (.athrow, 1) := by decide +kernel
theorem dASU_hugeLength_49 : decode cASU_hugeLength 49 = .ok (.iload_n 2, 1) := by decide +kernel
theorem dASU_hugeLength_50 : decode cASU_hugeLength 50 = .ok (.ldc 200, 2) := by decide +kernel
theorem dASU_hugeLength_52 : decode cASU_hugeLength 52 = .ok (.if_icmp .gt 6, 3) := by decide +kernel
theorem dASU_hugeLength_55 : decode cASU_hugeLength 55 = .ok (.ldc 200, 2) := by decide +kernel
theorem dASU_hugeLength_57 : decode cASU_hugeLength 57 = .ok (.ireturn, 1) := by decide +kernel
theorem dASU_hugeLength_58 : decode cASU_hugeLength 58 = .ok (.iload_n 2, 1) := by decide +kernel
theorem dASU_hugeLength_59 : decode cASU_hugeLength 59 = .ok (.ireturn, 1) := by decide +kernel
theorem dPRE_checkIndex_0 : decode cPRE_checkIndex 0 = .ok (.iload_n 0, 1) := by decide +kernel
theorem dPRE_checkIndex_1 : decode cPRE_checkIndex 1 = .ok (.ifCond .lt 8, 3) := by decide +kernel
theorem dPRE_checkIndex_4 : decode cPRE_checkIndex 4 = .ok (.iload_n 0, 1) := by decide +kernel
theorem dPRE_checkIndex_5 : decode cPRE_checkIndex 5 = .ok (.iload_n 1, 1) := by decide +kernel
theorem dPRE_checkIndex_6 : decode cPRE_checkIndex 6 = .ok (.if_icmp .lt 10, 3) := by decide +kernel
theorem dPRE_checkIndex_9 : decode cPRE_checkIndex 9 = .ok (.aload_n 2, 1) := by decide +kernel
theorem dPRE_checkIndex_10 : decode cPRE_checkIndex 10 = .ok (.iload_n 0, 1) := by decide +kernel
theorem dPRE_checkIndex_11 : decode cPRE_checkIndex 11 = .ok (.iload_n 1, 1) := by decide +kernel
theorem dPRE_checkIndex_12 : decode cPRE_checkIndex 12 = .ok (.invokestatic 95, 3) := by decide +kernel
theorem dPRE_checkIndex_15 : decode cPRE_checkIndex 15 = .ok (.athrow, 1) := by decide +kernel
theorem dPRE_checkIndex_16 : decode cPRE_checkIndex 16 = .ok (.iload_n 0, 1) := by decide +kernel
theorem dPRE_checkIndex_17 : decode cPRE_checkIndex 17 = .ok (.ireturn, 1) := by decide +kernel
