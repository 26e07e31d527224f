theorem dX0_init_0 : decode cX0_init 0 = .ok (.aload_n 0, 1) := by decide +kernel
theorem dX0_init_1 : decode cX0_init 1 = .ok (.invokespecial 3, 3) := by decide +kernel
theorem dX0_init_4 : decode cX0_init 4 = .ok (.aload_n 0, 1) := by decide +kernel
theorem dX0_init_5 : decode cX0_init 5 = .ok (.bipush 6, 2) := by decide +kernel
theorem dX0_init_7 : decode cX0_init 7 = .ok (.anewarray 9, 3) := by decide +kernel
theorem dX0_init_10 : decode cX0_init 10 = .ok (.putfield 11, 3) := by decide +kernel
theorem dX0_init_13 : decode cX0_init 13 = .ok (.iconst 0, 1) := by decide +kernel
theorem dX0_init_14 : decode cX0_init 14 = .ok (.istore_n 1, 1) := by decide +kernel
theorem dX0_init_15 : decode cX0_init 15 = .ok (.iload_n 1, 1) := by decide +kernel
theorem dX0_init_16 : decode cX0_init 16 = .ok (.bipush 6, 2) := by decide +kernel
theorem dX0_init_18 : decode cX0_init 18 = .ok (.if_icmp .ge 22, 3) := by decide +kernel
theorem dX0_init_21 : decode cX0_init 21 = .ok (.aload_n 0, 1) := by decide +kernel
theorem dX0_init_22 : decode cX0_init 22 = .ok (.getfield 11, 3) := by decide +kernel
theorem dX0_init_25 : decode cX0_init 25 = .ok (.iload_n 1, 1) := by decide +kernel
theorem dX0_init_26 : decode cX0_init 26 = .ok (.new 9, 3) := by decide +kernel
theorem dX0_init_29 : decode cX0_init 29 = .ok (.dup, 1) := by decide +kernel
theorem dX0_init_30 : decode cX0_init 30 = .ok (.invokespecial 17, 3) := by decide +kernel
theorem dX0_init_33 : decode cX0_init 33 = .ok (.aastore, 1) := by decide +kernel
theorem dX0_init_34 : decode cX0_init 34 = .ok (.iinc 1 1, 3) := by decide +kernel
theorem dX0_init_37 : decode cX0_init 37 = .ok (.goto (-22), 3) := by decide +kernel
theorem dX0_init_40 : decode cX0_init 40 = .ok (.return_, 1) := by decide +kernel
theorem dX0_record_0 : decode cX0_record 0 = .ok (.aload_n 0, 1) := by decide +kernel
theorem dX0_record_1 : decode cX0_record 1 = .ok (.getfield 18, 3) := by decide +kernel
theorem dX0_record_4 : decode cX0_record 4 = .ok (.bipush 6, 2) := by decide +kernel
theorem dX0_record_6 : decode cX0_record 6 = .ok (.if_icmp .lt 26, 3) := by decide +kernel
theorem dX0_record_9 : decode cX0_record 9 = .ok (.aload_n 0, 1) := by decide +kernel
theorem dX0_record_10 : decode cX0_record 10 = .ok (.aload_n 0, 1) := by decide +kernel
theorem dX0_record_11 : decode cX0_record 11 = .ok (.getfield 22, 3) := by decide +kernel
theorem dX0_record_14 : decode cX0_record 14 = .ok (.iconst 1, 1) := by decide +kernel
theorem dX0_record_15 : decode cX0_record 15 = .ok (.iadd, 1) := by decide +kernel
theorem dX0_record_16 : decode cX0_record 16 = .ok (.bipush 6, 2) := by decide +kernel
theorem dX0_record_18 : decode cX0_record 18 = .ok (.irem, 1) := by decide +kernel
theorem dX0_record_19 : decode cX0_record 19 = .ok (.putfield 22, 3) := by decide +kernel
theorem dX0_record_22 : decode cX0_record 22 = .ok (.aload_n 0, 1) := by decide +kernel
theorem dX0_record_23 : decode cX0_record 23 = .ok (.dup, 1) := by decide +kernel
theorem dX0_record_24 : decode cX0_record 24 = .ok (.getfield 18, 3) := by decide +kernel
theorem dX0_record_27 : decode cX0_record 27 = .ok (.iconst 1, 1) := by decide +kernel
theorem dX0_record_28 : decode cX0_record 28 = .ok (.isub, 1) := by decide +kernel
theorem dX0_record_29 : decode cX0_record 29 = .ok (.putfield 18, 3) := by decide +kernel
theorem dX0_record_32 : decode cX0_record 32 = .ok (.aload_n 0, 1) := by decide +kernel
theorem dX0_record_33 : decode cX0_record 33 = .ok (.getfield 11, 3) := by decide +kernel
theorem dX0_record_36 : decode cX0_record 36 = .ok (.aload_n 0, 1) := by decide +kernel
theorem dX0_record_37 : decode cX0_record 37 = .ok (.getfield 22, 3) := by decide +kernel
theorem dX0_record_40 : decode cX0_record 40 = .ok (.aload_n 0, 1) := by decide +kernel
theorem dX0_record_41 : decode cX0_record 41 = .ok (.getfield 18, 3) := by decide +kernel
theorem dX0_record_44 : decode cX0_record 44 = .ok (.iadd, 1) := by decide +kernel
theorem dX0_record_45 : decode cX0_record 45 = .ok (.bipush 6, 2) := by decide +kernel
theorem dX0_record_47 : decode cX0_record 47 = .ok (.irem, 1) := by decide +kernel
theorem dX0_record_48 : decode cX0_record 48 = .ok (.aaload, 1) := by decide +kernel
theorem dX0_record_49 : decode cX0_record 49 = .ok (.aload_n 1, 1) := by decide +kernel
theorem dX0_record_50 : decode cX0_record 50 = .ok (.invokevirtual 25, 3) := by decide +kernel
theorem dX0_record_53 : decode cX0_record 53 = .ok (.aload_n 0, 1) := by decide +kernel
theorem dX0_record_54 : decode cX0_record 54 = .ok (.dup, 1) := by decide +kernel
theorem dX0_record_55 : decode cX0_record 55 = .ok (.getfield 18, 3) := by decide +kernel
theorem dX0_record_58 : decode cX0_record 58 = .ok (.iconst 1, 1) := by decide +kernel
theorem dX0_record_59 : decode cX0_record 59 = .ok (.iadd, 1) := by decide +kernel
theorem dX0_record_60 : decode cX0_record 60 = .ok (.putfield 18, 3) := by decide +kernel
theorem dX0_record_63 : decode cX0_record 63 = .ok (.return_, 1) := by decide +kernel
theorem dX0_takeBack_0 : decode cX0_takeBack 0 = .ok (.aload_n 0, 1) := by decide +kernel
theorem dX0_takeBack_1 : decode cX0_takeBack 1 = .ok (.getfield 18, 3) := by decide +kernel
theorem dX0_takeBack_4 : decode cX0_takeBack 4 = .ok (.ifCond .gt 4, 3) := by decide +kernel
theorem dX0_takeBack_7 : decode cX0_takeBack 7 = .ok (.return_, 1) := by decide +kernel
theorem dX0_takeBack_8 : decode cX0_takeBack 8 = .ok (.aload_n 0, 1) := by decide +kernel
theorem dX0_takeBack_9 : decode cX0_takeBack 9 = .ok (.dup, 1) := by decide +kernel
theorem dX0_takeBack_10 : decode cX0_takeBack 10 = .ok (.getfield 18, 3) := by decide +kernel
theorem dX0_takeBack_13 : decode cX0_takeBack 13 = .ok (.iconst 1, 1) := by decide +kernel
theorem dX0_takeBack_14 : decode cX0_takeBack 14 = .ok (.isub, 1) := by decide +kernel
theorem dX0_takeBack_15 : decode cX0_takeBack 15 = .ok (.putfield 18, 3) := by decide +kernel
theorem dX0_takeBack_18 : decode cX0_takeBack 18 = .ok (.aload_n 1, 1) := by decide +kernel
theorem dX0_takeBack_19 : decode cX0_takeBack 19 = .ok (.aload_n 0, 1) := by decide +kernel
theorem dX0_takeBack_20 : decode cX0_takeBack 20 = .ok (.getfield 11, 3) := by decide +kernel
theorem dX0_takeBack_23 : decode cX0_takeBack 23 = .ok (.aload_n 0, 1) := by decide +kernel
theorem dX0_takeBack_24 : decode cX0_takeBack 24 = .ok (.getfield 22, 3) := by decide +kernel
theorem dX0_takeBack_27 : decode cX0_takeBack 27 = .ok (.aload_n 0, 1) := by decide +kernel
theorem dX0_takeBack_28 : decode cX0_takeBack 28 = .ok (.getfield 18, 3) := by decide +kernel
theorem dX0_takeBack_31 : decode cX0_takeBack 31 = .ok (.iadd, 1) := by decide +kernel
theorem dX0_takeBack_32 : decode cX0_takeBack 32 = .ok (.bipush 6, 2) := by decide +kernel
theorem dX0_takeBack_34 : decode cX0_takeBack 34 = .ok (.irem, 1) := by decide +kernel
theorem dX0_takeBack_35 : decode cX0_takeBack 35 = .ok (.aaload, 1) := by decide +kernel
theorem dX0_takeBack_36 : decode cX0_takeBack 36 = .ok (.invokevirtual 25, 3) := by decide +kernel
theorem dX0_takeBack_39 : decode cX0_takeBack 39 = .ok (.return_, 1) := by decide +kernel
theorem dX1_init_0 : decode cX1_init 0 = .ok (.aload_n 0, 1) := by decide +kernel
theorem dX1_init_1 : decode cX1_init 1 = .ok (.invokespecial 3, 3) := by decide +kernel
theorem dX1_init_4 : decode cX1_init 4 = .ok (.aload_n 0, 1) := by decide +kernel
theorem dX1_init_5 : decode cX1_init 5 = .ok (.bipush 60, 2) := by decide +kernel
theorem dX1_init_7 : decode cX1_init 7 = .ok (.newarray .int, 2) := by decide +kernel
theorem dX1_init_9 : decode cX1_init 9 = .ok (.putfield 9, 3) := by decide +kernel
theorem dX1_init_12 : decode cX1_init 12 = .ok (.return_, 1) := by decide +kernel
theorem dX2_init_0 : decode cX2_init 0 = .ok (.aload_n 0, 1) := by decide +kernel
theorem dX2_init_1 : decode cX2_init 1 = .ok (.invokespecial 3, 3) := by decide +kernel
theorem dX2_init_4 : decode cX2_init 4 = .ok (.aload_n 0, 1) := by decide +kernel
theorem dX2_init_5 : decode cX2_init 5 = .ok (.bipush 24, 2) := by decide +kernel
theorem dX2_init_7 : decode cX2_init 7 = .ok (.newarray .int, 2) := by decide +kernel
theorem dX2_init_9 : decode cX2_init 9 = .ok (.putfield 9, 3) := by decide +kernel
theorem dX2_init_12 : decode cX2_init 12 = .ok (.aload_n 0, 1) := by decide +kernel
theorem dX2_init_13 : decode cX2_init 13 = .ok (.bipush 24, 2) := by decide +kernel
theorem dX2_init_15 : decode cX2_init 15 = .ok (.newarray .int, 2) := by decide +kernel
theorem dX2_init_17 : decode cX2_init 17 = .ok (.putfield 15, 3) := by decide +kernel
theorem dX2_init_20 : decode cX2_init 20 = .ok (.aload_n 0, 1) := by decide +kernel
theorem dX2_init_21 : decode cX2_init 21 = .ok (.bipush 24, 2) := by decide +kernel
theorem dX2_init_23 : decode cX2_init 23 = .ok (.newarray .int, 2) := by decide +kernel
theorem dX2_init_25 : decode cX2_init 25 = .ok (.putfield 18, 3) := by decide +kernel
theorem dX2_init_28 : decode cX2_init 28 = .ok (.aload_n 0, 1) := by decide +kernel
theorem dX2_init_29 : decode cX2_init 29 = .ok (.bipush 8, 2) := by decide +kernel
theorem dX2_init_31 : decode cX2_init 31 = .ok (.newarray .int, 2) := by decide +kernel
theorem dX2_init_33 : decode cX2_init 33 = .ok (.putfield 21, 3) := by decide +kernel
theorem dX2_init_36 : decode cX2_init 36 = .ok (.aload_n 0, 1) := by decide +kernel
theorem dX2_init_37 : decode cX2_init 37 = .ok (.bipush 8, 2) := by decide +kernel
theorem dX2_init_39 : decode cX2_init 39 = .ok (.newarray .int, 2) := by decide +kernel
theorem dX2_init_41 : decode cX2_init 41 = .ok (.putfield 24, 3) := by decide +kernel
theorem dX2_init_44 : decode cX2_init 44 = .ok (.return_, 1) := by decide +kernel
theorem dX2_make_0 : decode cX2_make 0 = .ok (.aload_n 0, 1) := by decide +kernel
theorem dX2_make_1 : decode cX2_make 1 = .ok (.aload_n 1, 1) := by decide +kernel
theorem dX2_make_2 : decode cX2_make 2 = .ok (.invokevirtual 27, 3) := by decide +kernel
theorem dX2_make_5 : decode cX2_make 5 = .ok (.aload_n 0, 1) := by decide +kernel
theorem dX2_make_6 : decode cX2_make 6 = .ok (.aload_n 1, 1) := by decide +kernel
theorem dX2_make_7 : decode cX2_make 7 = .ok (.invokevirtual 31, 3) := by decide +kernel
theorem dX2_make_10 : decode cX2_make 10 = .ok (.return_, 1) := by decide +kernel
theorem dX2_lineUp_0 : decode cX2_lineUp 0 = .ok (.iconst 0, 1) := by decide +kernel
theorem dX2_lineUp_1 : decode cX2_lineUp 1 = .ok (.istore_n 2, 1) := by decide +kernel
theorem dX2_lineUp_2 : decode cX2_lineUp 2 = .ok (.iload_n 2, 1) := by decide +kernel
theorem dX2_lineUp_3 : decode cX2_lineUp 3 = .ok (.aload_n 1, 1) := by decide +kernel
theorem dX2_lineUp_4 : decode cX2_lineUp 4 = .ok (.getfield 34, 3) := by decide +kernel
theorem dX2_lineUp_7 : decode cX2_lineUp 7 = .ok (.if_icmp .ge 75, 3) := by decide +kernel
theorem dX2_lineUp_10 : decode cX2_lineUp 10 = .ok (.aload_n 0, 1) := by decide +kernel
theorem dX2_lineUp_11 : decode cX2_lineUp 11 = .ok (.getfield 15, 3) := by decide +kernel
theorem dX2_lineUp_14 : decode cX2_lineUp 14 = .ok (.iload_n 2, 1) := by decide +kernel
theorem dX2_lineUp_15 : decode cX2_lineUp 15 = .ok (.aload_n 1, 1) := by decide +kernel
theorem dX2_lineUp_16 : decode cX2_lineUp 16 = .ok (.iload_n 2, 1) := by decide +kernel
theorem dX2_lineUp_17 : decode cX2_lineUp 17 = .ok (.invokevirtual 40, 3) := by decide +kernel
theorem dX2_lineUp_20 : decode cX2_lineUp 20 = .ok (.iastore, 1) := by decide +kernel
theorem dX2_lineUp_21 : decode cX2_lineUp 21 = .ok (.iload_n 2, 1) := by decide +kernel
theorem dX2_lineUp_22 : decode cX2_lineUp 22 = .ok (.istore_n 3, 1) := by decide +kernel
theorem dX2_lineUp_23 : decode cX2_lineUp 23 = .ok (.iload_n 3, 1) := by decide +kernel
theorem dX2_lineUp_24 : decode cX2_lineUp 24 = .ok (.ifCond .le 45, 3) := by decide +kernel
theorem dX2_lineUp_27 : decode cX2_lineUp 27 = .ok (.aload_n 0, 1) := by decide +kernel
theorem dX2_lineUp_28 : decode cX2_lineUp 28 = .ok (.getfield 15, 3) := by decide +kernel
theorem dX2_lineUp_31 : decode cX2_lineUp 31 = .ok (.aload_n 0, 1) := by decide +kernel
theorem dX2_lineUp_32 : decode cX2_lineUp 32 = .ok (.getfield 9, 3) := by decide +kernel
theorem dX2_lineUp_35 : decode cX2_lineUp 35 = .ok (.iload_n 3, 1) := by decide +kernel
theorem dX2_lineUp_36 : decode cX2_lineUp 36 = .ok (.iconst 1, 1) := by decide +kernel
theorem dX2_lineUp_37 : decode cX2_lineUp 37 = .ok (.isub, 1) := by decide +kernel
theorem dX2_lineUp_38 : decode cX2_lineUp 38 = .ok (.iaload, 1) := by decide +kernel
theorem dX2_lineUp_39 : decode cX2_lineUp 39 = .ok (.iaload, 1) := by decide +kernel
theorem dX2_lineUp_40 : decode cX2_lineUp 40 = .ok (.aload_n 0, 1) := by decide +kernel
theorem dX2_lineUp_41 : decode cX2_lineUp 41 = .ok (.getfield 15, 3) := by decide +kernel
theorem dX2_lineUp_44 : decode cX2_lineUp 44 = .ok (.iload_n 2, 1) := by decide +kernel
theorem dX2_lineUp_45 : decode cX2_lineUp 45 = .ok (.iaload, 1) := by decide +kernel
theorem dX2_lineUp_46 : decode cX2_lineUp 46 = .ok (.if_icmp .le 23, 3) := by decide +kernel
theorem dX2_lineUp_49 : decode cX2_lineUp 49 = .ok (.aload_n 0, 1) := by decide +kernel
theorem dX2_lineUp_50 : decode cX2_lineUp 50 = .ok (.getfield 9, 3) := by decide +kernel
theorem dX2_lineUp_53 : decode cX2_lineUp 53 = .ok (.iload_n 3, 1) := by decide +kernel
theorem dX2_lineUp_54 : decode cX2_lineUp 54 = .ok (.aload_n 0, 1) := by decide +kernel
theorem dX2_lineUp_55 : decode cX2_lineUp 55 = .ok (.getfield 9, 3) := by decide +kernel
theorem dX2_lineUp_58 : decode cX2_lineUp 58 = .ok (.iload_n 3, 1) := by decide +kernel
theorem dX2_lineUp_59 : decode cX2_lineUp 59 = .ok (.iconst 1, 1) := by decide +kernel
theorem dX2_lineUp_60 : decode cX2_lineUp 60 = .ok (.isub, 1) := by decide +kernel
theorem dX2_lineUp_61 : decode cX2_lineUp 61 = .ok (.iaload, 1) := by decide +kernel
theorem dX2_lineUp_62 : decode cX2_lineUp 62 = .ok (.iastore, 1) := by decide +kernel
theorem dX2_lineUp_63 : decode cX2_lineUp 63 = .ok (.iinc 3 (-1), 3) := by decide +kernel
theorem dX2_lineUp_66 : decode cX2_lineUp 66 = .ok (.goto (-43), 3) := by decide +kernel
theorem dX2_lineUp_69 : decode cX2_lineUp 69 = .ok (.aload_n 0, 1) := by decide +kernel
theorem dX2_lineUp_70 : decode cX2_lineUp 70 = .ok (.getfield 9, 3) := by decide +kernel
theorem dX2_lineUp_73 : decode cX2_lineUp 73 = .ok (.iload_n 3, 1) := by decide +kernel
theorem dX2_lineUp_74 : decode cX2_lineUp 74 = .ok (.iload_n 2, 1) := by decide +kernel
theorem dX2_lineUp_75 : decode cX2_lineUp 75 = .ok (.iastore, 1) := by decide +kernel
theorem dX2_lineUp_76 : decode cX2_lineUp 76 = .ok (.iinc 2 1, 3) := by decide +kernel
theorem dX2_lineUp_79 : decode cX2_lineUp 79 = .ok (.goto (-77), 3) := by decide +kernel
theorem dX2_lineUp_82 : decode cX2_lineUp 82 = .ok (.return_, 1) := by decide +kernel
theorem dX2_board_0 : decode cX2_board 0 = .ok (.iconst 0, 1) := by decide +kernel
theorem dX2_board_1 : decode cX2_board 1 = .ok (.istore_n 2, 1) := by decide +kernel
theorem dX2_board_2 : decode cX2_board 2 = .ok (.iload_n 2, 1) := by decide +kernel
theorem dX2_board_3 : decode cX2_board 3 = .ok (.bipush 8, 2) := by decide +kernel
theorem dX2_board_5 : decode cX2_board 5 = .ok (.if_icmp .ge 23, 3) := by decide +kernel
theorem dX2_board_8 : decode cX2_board 8 = .ok (.aload_n 0, 1) := by decide +kernel
theorem dX2_board_9 : decode cX2_board 9 = .ok (.getfield 21, 3) := by decide +kernel
theorem dX2_board_12 : decode cX2_board 12 = .ok (.iload_n 2, 1) := by decide +kernel
theorem dX2_board_13 : decode cX2_board 13 = .ok (.iconst 0, 1) := by decide +kernel
theorem dX2_board_14 : decode cX2_board 14 = .ok (.iastore, 1) := by decide +kernel
theorem dX2_board_15 : decode cX2_board 15 = .ok (.aload_n 0, 1) := by decide +kernel
theorem dX2_board_16 : decode cX2_board 16 = .ok (.getfield 24, 3) := by decide +kernel
theorem dX2_board_19 : decode cX2_board 19 = .ok (.iload_n 2, 1) := by decide +kernel
theorem dX2_board_20 : decode cX2_board 20 = .ok (.iconst 0, 1) := by decide +kernel
theorem dX2_board_21 : decode cX2_board 21 = .ok (.iastore, 1) := by decide +kernel
theorem dX2_board_22 : decode cX2_board 22 = .ok (.iinc 2 1, 3) := by decide +kernel
theorem dX2_board_25 : decode cX2_board 25 = .ok (.goto (-23), 3) := by decide +kernel
theorem dX2_board_28 : decode cX2_board 28 = .ok (.aload_n 0, 1) := by decide +kernel
theorem dX2_board_29 : decode cX2_board 29 = .ok (.iconst 0, 1) := by decide +kernel
theorem dX2_board_30 : decode cX2_board 30 = .ok (.putfield 44, 3) := by decide +kernel
theorem dX2_board_33 : decode cX2_board 33 = .ok (.aload_n 0, 1) := by decide +kernel
theorem dX2_board_34 : decode cX2_board 34 = .ok (.iconst 0, 1) := by decide +kernel
theorem dX2_board_35 : decode cX2_board 35 = .ok (.putfield 47, 3) := by decide +kernel
theorem dX2_board_38 : decode cX2_board 38 = .ok (.aload_n 0, 1) := by decide +kernel
theorem dX2_board_39 : decode cX2_board 39 = .ok (.iconst 0, 1) := by decide +kernel
theorem dX2_board_40 : decode cX2_board 40 = .ok (.putfield 50, 3) := by decide +kernel
theorem dX2_board_43 : decode cX2_board 43 = .ok (.iconst 0, 1) := by decide +kernel
theorem dX2_board_44 : decode cX2_board 44 = .ok (.istore_n 2, 1) := by decide +kernel
theorem dX2_board_45 : decode cX2_board 45 = .ok (.iload_n 2, 1) := by decide +kernel
theorem dX2_board_46 : decode cX2_board 46 = .ok (.aload_n 1, 1) := by decide +kernel
theorem dX2_board_47 : decode cX2_board 47 = .ok (.getfield 34, 3) := by decide +kernel
theorem dX2_board_50 : decode cX2_board 50 = .ok (.if_icmp .ge 20, 3) := by decide +kernel
theorem dX2_board_53 : decode cX2_board 53 = .ok (.aload_n 0, 1) := by decide +kernel
theorem dX2_board_54 : decode cX2_board 54 = .ok (.aload_n 1, 1) := by decide +kernel
theorem dX2_board_55 : decode cX2_board 55 = .ok (.aload_n 0, 1) := by decide +kernel
theorem dX2_board_56 : decode cX2_board 56 = .ok (.getfield 9, 3) := by decide +kernel
theorem dX2_board_59 : decode cX2_board 59 = .ok (.iload_n 2, 1) := by decide +kernel
theorem dX2_board_60 : decode cX2_board 60 = .ok (.iaload, 1) := by decide +kernel
theorem dX2_board_61 : decode cX2_board 61 = .ok (.invokevirtual 53, 3) := by decide +kernel
theorem dX2_board_64 : decode cX2_board 64 = .ok (.iinc 2 1, 3) := by decide +kernel
theorem dX2_board_67 : decode cX2_board 67 = .ok (.goto (-22), 3) := by decide +kernel
theorem dX2_board_70 : decode cX2_board 70 = .ok (.return_, 1) := by decide +kernel
theorem dX2_boardOne_0 : decode cX2_boardOne 0 = .ok (.aload_n 1, 1) := by decide +kernel
theorem dX2_boardOne_1 : decode cX2_boardOne 1 = .ok (.getfield 57, 3) := by decide +kernel
theorem dX2_boardOne_4 : decode cX2_boardOne 4 = .ok (.iload_n 2, 1) := by decide +kernel
theorem dX2_boardOne_5 : decode cX2_boardOne 5 = .ok (.iaload, 1) := by decide +kernel
theorem dX2_boardOne_6 : decode cX2_boardOne 6 = .ok (.istore_n 3, 1) := by decide +kernel
theorem dX2_boardOne_7 : decode cX2_boardOne 7 = .ok (.aload_n 0, 1) := by decide +kernel
theorem dX2_boardOne_8 : decode cX2_boardOne 8 = .ok (.aload_n 1, 1) := by decide +kernel
theorem dX2_boardOne_9 : decode cX2_boardOne 9 = .ok (.iload_n 2, 1) := by decide +kernel
theorem dX2_boardOne_10 : decode cX2_boardOne 10 = .ok (.invokevirtual 60, 3) := by decide +kernel
theorem dX2_boardOne_13 : decode cX2_boardOne 13 = .ok (.istore 4, 2) := by decide +kernel
theorem dX2_boardOne_15 : decode cX2_boardOne 15 = .ok (.aload_n 0, 1) := by decide +kernel
theorem dX2_boardOne_16 : decode cX2_boardOne 16 = .ok (.getfield 18, 3) := by decide +kernel
theorem dX2_boardOne_19 : decode cX2_boardOne 19 = .ok (.iload_n 2, 1) := by decide +kernel
theorem dX2_boardOne_20 : decode cX2_boardOne 20 = .ok (.iload 4, 2) := by decide +kernel
theorem dX2_boardOne_22 : decode cX2_boardOne 22 = .ok (.iastore, 1) := by decide +kernel
theorem dX2_boardOne_23 : decode cX2_boardOne 23 = .ok (.iload 4, 2) := by decide +kernel
theorem dX2_boardOne_25 : decode cX2_boardOne 25 = .ok (.invokestatic 64, 3) := by decide +kernel
theorem dX2_boardOne_28 : decode cX2_boardOne 28 = .ok (.ifCond .ne 24, 3) := by decide +kernel
theorem dX2_boardOne_31 : decode cX2_boardOne 31 = .ok (.aload_n 0, 1) := by decide +kernel
theorem dX2_boardOne_32 : decode cX2_boardOne 32 = .ok (.dup, 1) := by decide +kernel
theorem dX2_boardOne_33 : decode cX2_boardOne 33 = .ok (.getfield 44, 3) := by decide +kernel
theorem dX2_boardOne_36 : decode cX2_boardOne 36 = .ok (.iconst 1, 1) := by decide +kernel
theorem dX2_boardOne_37 : decode cX2_boardOne 37 = .ok (.iadd, 1) := by decide +kernel
theorem dX2_boardOne_38 : decode cX2_boardOne 38 = .ok (.putfield 44, 3) := by decide +kernel
theorem dX2_boardOne_41 : decode cX2_boardOne 41 = .ok (.aload_n 0, 1) := by decide +kernel
theorem dX2_boardOne_42 : decode cX2_boardOne 42 = .ok (.dup, 1) := by decide +kernel
theorem dX2_boardOne_43 : decode cX2_boardOne 43 = .ok (.getfield 47, 3) := by decide +kernel
theorem dX2_boardOne_46 : decode cX2_boardOne 46 = .ok (.iload_n 3, 1) := by decide +kernel
theorem dX2_boardOne_47 : decode cX2_boardOne 47 = .ok (.iadd, 1) := by decide +kernel
theorem dX2_boardOne_48 : decode cX2_boardOne 48 = .ok (.putfield 47, 3) := by decide +kernel
theorem dX2_boardOne_51 : decode cX2_boardOne 51 = .ok (.return_, 1) := by decide +kernel
theorem dX2_boardOne_52 : decode cX2_boardOne 52 = .ok (.aload_n 0, 1) := by decide +kernel
theorem dX2_boardOne_53 : decode cX2_boardOne 53 = .ok (.getfield 21, 3) := by decide +kernel
theorem dX2_boardOne_56 : decode cX2_boardOne 56 = .ok (.iload 4, 2) := by decide +kernel
theorem dX2_boardOne_58 : decode cX2_boardOne 58 = .ok (.dup2, 1) := by decide +kernel
theorem dX2_boardOne_59 : decode cX2_boardOne 59 = .ok (.iaload, 1) := by decide +kernel
theorem dX2_boardOne_60 : decode cX2_boardOne 60 = .ok (.iload_n 3, 1) := by decide +kernel
theorem dX2_boardOne_61 : decode cX2_boardOne 61 = .ok (.iadd, 1) := by decide +kernel
theorem dX2_boardOne_62 : decode cX2_boardOne 62 = .ok (.iastore, 1) := by decide +kernel
theorem dX2_boardOne_63 : decode cX2_boardOne 63 = .ok (.aload_n 0, 1) := by decide +kernel
theorem dX2_boardOne_64 : decode cX2_boardOne 64 = .ok (.getfield 24, 3) := by decide +kernel
theorem dX2_boardOne_67 : decode cX2_boardOne 67 = .ok (.iload 4, 2) := by decide +kernel
theorem dX2_boardOne_69 : decode cX2_boardOne 69 = .ok (.dup2, 1) := by decide +kernel
theorem dX2_boardOne_70 : decode cX2_boardOne 70 = .ok (.iaload, 1) := by decide +kernel
theorem dX2_boardOne_71 : decode cX2_boardOne 71 = .ok (.iconst 1, 1) := by decide +kernel
theorem dX2_boardOne_72 : decode cX2_boardOne 72 = .ok (.aload_n 1, 1) := by decide +kernel
theorem dX2_boardOne_73 : decode cX2_boardOne 73 = .ok (.getfield 68, 3) := by decide +kernel
theorem dX2_boardOne_76 : decode cX2_boardOne 76 = .ok (.iload_n 2, 1) := by decide +kernel
theorem dX2_boardOne_77 : decode cX2_boardOne 77 = .ok (.iaload, 1) := by decide +kernel
theorem dX2_boardOne_78 : decode cX2_boardOne 78 = .ok (.ishl, 1) := by decide +kernel
theorem dX2_boardOne_79 : decode cX2_boardOne 79 = .ok (.ior, 1) := by decide +kernel
theorem dX2_boardOne_80 : decode cX2_boardOne 80 = .ok (.iastore, 1) := by decide +kernel
theorem dX2_boardOne_81 : decode cX2_boardOne 81 = .ok (.aload_n 0, 1) := by decide +kernel
theorem dX2_boardOne_82 : decode cX2_boardOne 82 = .ok (.dup, 1) := by decide +kernel
theorem dX2_boardOne_83 : decode cX2_boardOne 83 = .ok (.getfield 50, 3) := by decide +kernel
theorem dX2_boardOne_86 : decode cX2_boardOne 86 = .ok (.iload_n 3, 1) := by decide +kernel
theorem dX2_boardOne_87 : decode cX2_boardOne 87 = .ok (.aload_n 1, 1) := by decide +kernel
theorem dX2_boardOne_88 : decode cX2_boardOne 88 = .ok (.getfield 71, 3) := by decide +kernel
theorem dX2_boardOne_91 : decode cX2_boardOne 91 = .ok (.iload 4, 2) := by decide +kernel
theorem dX2_boardOne_93 : decode cX2_boardOne 93 = .ok (.iaload, 1) := by decide +kernel
theorem dX2_boardOne_94 : decode cX2_boardOne 94 = .ok (.aload_n 0, 1) := by decide +kernel
theorem dX2_boardOne_95 : decode cX2_boardOne 95 = .ok (.getfield 15, 3) := by decide +kernel
theorem dX2_boardOne_98 : decode cX2_boardOne 98 = .ok (.iload_n 2, 1) := by decide +kernel
theorem dX2_boardOne_99 : decode cX2_boardOne 99 = .ok (.iaload, 1) := by decide +kernel
theorem dX2_boardOne_100 : decode cX2_boardOne 100 = .ok (.isub, 1) := by decide +kernel
theorem dX2_boardOne_101 : decode cX2_boardOne 101 = .ok (.imul, 1) := by decide +kernel
theorem dX2_boardOne_102 : decode cX2_boardOne 102 = .ok (.iadd, 1) := by decide +kernel
theorem dX2_boardOne_103 : decode cX2_boardOne 103 = .ok (.putfield 50, 3) := by decide +kernel
theorem dX2_boardOne_106 : decode cX2_boardOne 106 = .ok (.return_, 1) := by decide +kernel
theorem dX2_firstVanFor_0 : decode cX2_firstVanFor 0 = .ok (.bipush (-106), 2) := by decide +kernel
theorem dX2_firstVanFor_2 : decode cX2_firstVanFor 2 = .ok (.istore_n 3, 1) := by decide +kernel
theorem dX2_firstVanFor_3 : decode cX2_firstVanFor 3 = .ok (.iconst 0, 1) := by decide +kernel
theorem dX2_firstVanFor_4 : decode cX2_firstVanFor 4 = .ok (.istore 4, 2) := by decide +kernel
theorem dX2_firstVanFor_6 : decode cX2_firstVanFor 6 = .ok (.iconst 0, 1) := by decide +kernel
theorem dX2_firstVanFor_7 : decode cX2_firstVanFor 7 = .ok (.istore 5, 2) := by decide +kernel
theorem dX2_firstVanFor_9 : decode cX2_firstVanFor 9 = .ok (.iload 5, 2) := by decide +kernel
theorem dX2_firstVanFor_11 : decode cX2_firstVanFor 11 = .ok (.bipush 8, 2) := by decide +kernel
theorem dX2_firstVanFor_13 : decode cX2_firstVanFor 13 = .ok (.if_icmp .ge 62, 3) := by decide +kernel
theorem dX2_firstVanFor_16 : decode cX2_firstVanFor 16 = .ok (.iload_n 3, 1) := by decide +kernel
theorem dX2_firstVanFor_17 : decode cX2_firstVanFor 17 = .ok (.bipush (-106), 2) := by decide +kernel
theorem dX2_firstVanFor_19 : decode cX2_firstVanFor 19 = .ok (.if_icmp .eq 15, 3) := by decide +kernel
theorem dX2_firstVanFor_22 : decode cX2_firstVanFor 22 = .ok (.aload_n 1, 1) := by decide +kernel
theorem dX2_firstVanFor_23 : decode cX2_firstVanFor 23 = .ok (.getfield 71, 3) := by decide +kernel
theorem dX2_firstVanFor_26 : decode cX2_firstVanFor 26 = .ok (.iload 5, 2) := by decide +kernel
theorem dX2_firstVanFor_28 : decode cX2_firstVanFor 28 = .ok (.iaload, 1) := by decide +kernel
theorem dX2_firstVanFor_29 : decode cX2_firstVanFor 29 = .ok (.iload 4, 2) := by decide +kernel
theorem dX2_firstVanFor_31 : decode cX2_firstVanFor 31 = .ok (.if_icmp .ge 7, 3) := by decide +kernel
theorem dX2_firstVanFor_34 : decode cX2_firstVanFor 34 = .ok (.iconst 1, 1) := by decide +kernel
theorem dX2_firstVanFor_35 : decode cX2_firstVanFor 35 = .ok (.goto 4, 3) := by decide +kernel
theorem dX2_firstVanFor_38 : decode cX2_firstVanFor 38 = .ok (.iconst 0, 1) := by decide +kernel
theorem dX2_firstVanFor_39 : decode cX2_firstVanFor 39 = .ok (.istore 6, 2) := by decide +kernel
theorem dX2_firstVanFor_41 : decode cX2_firstVanFor 41 = .ok (.iload 6, 2) := by decide +kernel
theorem dX2_firstVanFor_43 : decode cX2_firstVanFor 43 = .ok (.ifCond .eq 26, 3) := by decide +kernel
theorem dX2_firstVanFor_46 : decode cX2_firstVanFor 46 = .ok (.aload_n 0, 1) := by decide +kernel
theorem dX2_firstVanFor_47 : decode cX2_firstVanFor 47 = .ok (.aload_n 1, 1) := by decide +kernel
theorem dX2_firstVanFor_48 : decode cX2_firstVanFor 48 = .ok (.iload 5, 2) := by decide +kernel
theorem dX2_firstVanFor_50 : decode cX2_firstVanFor 50 = .ok (.iload_n 2, 1) := by decide +kernel
theorem dX2_firstVanFor_51 : decode cX2_firstVanFor 51 = .ok (.invokevirtual 74, 3) := by decide +kernel
theorem dX2_firstVanFor_54 : decode cX2_firstVanFor 54 = .ok (.ifCond .eq 15, 3) := by decide +kernel
theorem dX2_firstVanFor_57 : decode cX2_firstVanFor 57 = .ok (.iload 5, 2) := by decide +kernel
theorem dX2_firstVanFor_59 : decode cX2_firstVanFor 59 = .ok (.istore_n 3, 1) := by decide +kernel
theorem dX2_firstVanFor_60 : decode cX2_firstVanFor 60 = .ok (.aload_n 1, 1) := by decide +kernel
theorem dX2_firstVanFor_61 : decode cX2_firstVanFor 61 = .ok (.getfield 71, 3) := by decide +kernel
theorem dX2_firstVanFor_64 : decode cX2_firstVanFor 64 = .ok (.iload 5, 2) := by decide +kernel
theorem dX2_firstVanFor_66 : decode cX2_firstVanFor 66 = .ok (.iaload, 1) := by decide +kernel
theorem dX2_firstVanFor_67 : decode cX2_firstVanFor 67 = .ok (.istore 4, 2) := by decide +kernel
theorem dX2_firstVanFor_69 : decode cX2_firstVanFor 69 = .ok (.iinc 5 1, 3) := by decide +kernel
theorem dX2_firstVanFor_72 : decode cX2_firstVanFor 72 = .ok (.goto (-63), 3) := by decide +kernel
theorem dX2_firstVanFor_75 : decode cX2_firstVanFor 75 = .ok (.iload_n 3, 1) := by decide +kernel
theorem dX2_firstVanFor_76 : decode cX2_firstVanFor 76 = .ok (.ireturn, 1) := by decide +kernel
theorem dX2_takes_0 : decode cX2_takes 0 = .ok (.aload_n 1, 1) := by decide +kernel
theorem dX2_takes_1 : decode cX2_takes 1 = .ok (.getfield 71, 3) := by decide +kernel
theorem dX2_takes_4 : decode cX2_takes 4 = .ok (.iload_n 2, 1) := by decide +kernel
theorem dX2_takes_5 : decode cX2_takes 5 = .ok (.iaload, 1) := by decide +kernel
theorem dX2_takes_6 : decode cX2_takes 6 = .ok (.aload_n 0, 1) := by decide +kernel
theorem dX2_takes_7 : decode cX2_takes 7 = .ok (.getfield 15, 3) := by decide +kernel
theorem dX2_takes_10 : decode cX2_takes 10 = .ok (.iload_n 3, 1) := by decide +kernel
theorem dX2_takes_11 : decode cX2_takes 11 = .ok (.iaload, 1) := by decide +kernel
theorem dX2_takes_12 : decode cX2_takes 12 = .ok (.isub, 1) := by decide +kernel
theorem dX2_takes_13 : decode cX2_takes 13 = .ok (.istore 4, 2) := by decide +kernel
theorem dX2_takes_15 : decode cX2_takes 15 = .ok (.iload 4, 2) := by decide +kernel
theorem dX2_takes_17 : decode cX2_takes 17 = .ok (.iconst 0, 1) := by decide +kernel
theorem dX2_takes_18 : decode cX2_takes 18 = .ok (.aload_n 1, 1) := by decide +kernel
theorem dX2_takes_19 : decode cX2_takes 19 = .ok (.getfield 78, 3) := by decide +kernel
theorem dX2_takes_22 : decode cX2_takes 22 = .ok (.iconst 1, 1) := by decide +kernel
theorem dX2_takes_23 : decode cX2_takes 23 = .ok (.iaload, 1) := by decide +kernel
theorem dX2_takes_24 : decode cX2_takes 24 = .ok (.invokestatic 81, 3) := by decide +kernel
theorem dX2_takes_27 : decode cX2_takes 27 = .ok (.ifCond .ne 5, 3) := by decide +kernel
theorem dX2_takes_30 : decode cX2_takes 30 = .ok (.iconst 0, 1) := by decide +kernel
theorem dX2_takes_31 : decode cX2_takes 31 = .ok (.ireturn, 1) := by decide +kernel
theorem dX2_takes_32 : decode cX2_takes 32 = .ok (.aload_n 0, 1) := by decide +kernel
theorem dX2_takes_33 : decode cX2_takes 33 = .ok (.getfield 21, 3) := by decide +kernel
theorem dX2_takes_36 : decode cX2_takes 36 = .ok (.iload_n 2, 1) := by decide +kernel
theorem dX2_takes_37 : decode cX2_takes 37 = .ok (.iaload, 1) := by decide +kernel
theorem dX2_takes_38 : decode cX2_takes 38 = .ok (.aload_n 1, 1) := by decide +kernel
theorem dX2_takes_39 : decode cX2_takes 39 = .ok (.getfield 57, 3) := by decide +kernel
theorem dX2_takes_42 : decode cX2_takes 42 = .ok (.iload_n 3, 1) := by decide +kernel
theorem dX2_takes_43 : decode cX2_takes 43 = .ok (.iaload, 1) := by decide +kernel
theorem dX2_takes_44 : decode cX2_takes 44 = .ok (.iadd, 1) := by decide +kernel
theorem dX2_takes_45 : decode cX2_takes 45 = .ok (.aload_n 1, 1) := by decide +kernel
theorem dX2_takes_46 : decode cX2_takes 46 = .ok (.getfield 85, 3) := by decide +kernel
theorem dX2_takes_49 : decode cX2_takes 49 = .ok (.iload_n 2, 1) := by decide +kernel
theorem dX2_takes_50 : decode cX2_takes 50 = .ok (.iaload, 1) := by decide +kernel
theorem dX2_takes_51 : decode cX2_takes 51 = .ok (.if_icmp .le 5, 3) := by decide +kernel
theorem dX2_takes_54 : decode cX2_takes 54 = .ok (.iconst 0, 1) := by decide +kernel
theorem dX2_takes_55 : decode cX2_takes 55 = .ok (.ireturn, 1) := by decide +kernel
theorem dX2_takes_56 : decode cX2_takes 56 = .ok (.aload_n 0, 1) := by decide +kernel
theorem dX2_takes_57 : decode cX2_takes 57 = .ok (.getfield 24, 3) := by decide +kernel
theorem dX2_takes_60 : decode cX2_takes 60 = .ok (.iload_n 2, 1) := by decide +kernel
theorem dX2_takes_61 : decode cX2_takes 61 = .ok (.iaload, 1) := by decide +kernel
theorem dX2_takes_62 : decode cX2_takes 62 = .ok (.iconst 1, 1) := by decide +kernel
theorem dX2_takes_63 : decode cX2_takes 63 = .ok (.aload_n 1, 1) := by decide +kernel
theorem dX2_takes_64 : decode cX2_takes 64 = .ok (.getfield 68, 3) := by decide +kernel
theorem dX2_takes_67 : decode cX2_takes 67 = .ok (.iload_n 3, 1) := by decide +kernel
theorem dX2_takes_68 : decode cX2_takes 68 = .ok (.iaload, 1) := by decide +kernel
theorem dX2_takes_69 : decode cX2_takes 69 = .ok (.ishl, 1) := by decide +kernel
theorem dX2_takes_70 : decode cX2_takes 70 = .ok (.ior, 1) := by decide +kernel
theorem dX2_takes_71 : decode cX2_takes 71 = .ok (.istore 5, 2) := by decide +kernel
theorem dX2_takes_73 : decode cX2_takes 73 = .ok (.iload 5, 2) := by decide +kernel
theorem dX2_takes_75 : decode cX2_takes 75 = .ok (.invokestatic 88, 3) := by decide +kernel
theorem dX2_takes_78 : decode cX2_takes 78 = .ok (.aload_n 1, 1) := by decide +kernel
theorem dX2_takes_79 : decode cX2_takes 79 = .ok (.getfield 78, 3) := by decide +kernel
theorem dX2_takes_82 : decode cX2_takes 82 = .ok (.iconst 2, 1) := by decide +kernel
theorem dX2_takes_83 : decode cX2_takes 83 = .ok (.iaload, 1) := by decide +kernel
theorem dX2_takes_84 : decode cX2_takes 84 = .ok (.if_icmp .gt 7, 3) := by decide +kernel
theorem dX2_takes_87 : decode cX2_takes 87 = .ok (.iconst 1, 1) := by decide +kernel
theorem dX2_takes_88 : decode cX2_takes 88 = .ok (.goto 4, 3) := by decide +kernel
theorem dX2_takes_91 : decode cX2_takes 91 = .ok (.iconst 0, 1) := by decide +kernel
theorem dX2_takes_92 : decode cX2_takes 92 = .ok (.ireturn, 1) := by decide +kernel
theorem dX2_waitOf_0 : decode cX2_waitOf 0 = .ok (.aload_n 0, 1) := by decide +kernel
theorem dX2_waitOf_1 : decode cX2_waitOf 1 = .ok (.getfield 18, 3) := by decide +kernel
theorem dX2_waitOf_4 : decode cX2_waitOf 4 = .ok (.iload_n 2, 1) := by decide +kernel
theorem dX2_waitOf_5 : decode cX2_waitOf 5 = .ok (.iaload, 1) := by decide +kernel
theorem dX2_waitOf_6 : decode cX2_waitOf 6 = .ok (.istore_n 3, 1) := by decide +kernel
theorem dX2_waitOf_7 : decode cX2_waitOf 7 = .ok (.iload_n 3, 1) := by decide +kernel
theorem dX2_waitOf_8 : decode cX2_waitOf 8 = .ok (.invokestatic 64, 3) := by decide +kernel
theorem dX2_waitOf_11 : decode cX2_waitOf 11 = .ok (.ifCond .eq 19, 3) := by decide +kernel
theorem dX2_waitOf_14 : decode cX2_waitOf 14 = .ok (.aload_n 1, 1) := by decide +kernel
theorem dX2_waitOf_15 : decode cX2_waitOf 15 = .ok (.getfield 71, 3) := by decide +kernel
theorem dX2_waitOf_18 : decode cX2_waitOf 18 = .ok (.iload_n 3, 1) := by decide +kernel
theorem dX2_waitOf_19 : decode cX2_waitOf 19 = .ok (.iaload, 1) := by decide +kernel
theorem dX2_waitOf_20 : decode cX2_waitOf 20 = .ok (.aload_n 0, 1) := by decide +kernel
theorem dX2_waitOf_21 : decode cX2_waitOf 21 = .ok (.getfield 15, 3) := by decide +kernel
theorem dX2_waitOf_24 : decode cX2_waitOf 24 = .ok (.iload_n 2, 1) := by decide +kernel
theorem dX2_waitOf_25 : decode cX2_waitOf 25 = .ok (.iaload, 1) := by decide +kernel
theorem dX2_waitOf_26 : decode cX2_waitOf 26 = .ok (.isub, 1) := by decide +kernel
theorem dX2_waitOf_27 : decode cX2_waitOf 27 = .ok (.goto 5, 3) := by decide +kernel
theorem dX2_waitOf_30 : decode cX2_waitOf 30 = .ok (.bipush (-106), 2) := by decide +kernel
theorem dX2_waitOf_32 : decode cX2_waitOf 32 = .ok (.ireturn, 1) := by decide +kernel
theorem dX2_isAtKerb_0 : decode cX2_isAtKerb 0 = .ok (.aload_n 0, 1) := by decide +kernel
theorem dX2_isAtKerb_1 : decode cX2_isAtKerb 1 = .ok (.getfield 15, 3) := by decide +kernel
theorem dX2_isAtKerb_4 : decode cX2_isAtKerb 4 = .ok (.iload_n 2, 1) := by decide +kernel
theorem dX2_isAtKerb_5 : decode cX2_isAtKerb 5 = .ok (.iaload, 1) := by decide +kernel
theorem dX2_isAtKerb_6 : decode cX2_isAtKerb 6 = .ok (.iload_n 3, 1) := by decide +kernel
theorem dX2_isAtKerb_7 : decode cX2_isAtKerb 7 = .ok (.if_icmp .le 5, 3) := by decide +kernel
theorem dX2_isAtKerb_10 : decode cX2_isAtKerb 10 = .ok (.iconst 0, 1) := by decide +kernel
theorem dX2_isAtKerb_11 : decode cX2_isAtKerb 11 = .ok (.ireturn, 1) := by decide +kernel
theorem dX2_isAtKerb_12 : decode cX2_isAtKerb 12 = .ok (.aload_n 0, 1) := by decide +kernel
theorem dX2_isAtKerb_13 : decode cX2_isAtKerb 13 = .ok (.getfield 18, 3) := by decide +kernel
theorem dX2_isAtKerb_16 : decode cX2_isAtKerb 16 = .ok (.iload_n 2, 1) := by decide +kernel
theorem dX2_isAtKerb_17 : decode cX2_isAtKerb 17 = .ok (.iaload, 1) := by decide +kernel
theorem dX2_isAtKerb_18 : decode cX2_isAtKerb 18 = .ok (.istore 4, 2) := by decide +kernel
theorem dX2_isAtKerb_20 : decode cX2_isAtKerb 20 = .ok (.iload 4, 2) := by decide +kernel
theorem dX2_isAtKerb_22 : decode cX2_isAtKerb 22 = .ok (.invokestatic 64, 3) := by decide +kernel
theorem dX2_isAtKerb_25 : decode cX2_isAtKerb 25 = .ok (.ifCond .eq 20, 3) := by decide +kernel
theorem dX2_isAtKerb_28 : decode cX2_isAtKerb 28 = .ok (.aload_n 1, 1) := by decide +kernel
theorem dX2_isAtKerb_29 : decode cX2_isAtKerb 29 = .ok (.getfield 71, 3) := by decide +kernel
theorem dX2_isAtKerb_32 : decode cX2_isAtKerb 32 = .ok (.iload 4, 2) := by decide +kernel
theorem dX2_isAtKerb_34 : decode cX2_isAtKerb 34 = .ok (.iaload, 1) := by decide +kernel
theorem dX2_isAtKerb_35 : decode cX2_isAtKerb 35 = .ok (.iload_n 3, 1) := by decide +kernel
theorem dX2_isAtKerb_36 : decode cX2_isAtKerb 36 = .ok (.if_icmp .le 7, 3) := by decide +kernel
theorem dX2_isAtKerb_39 : decode cX2_isAtKerb 39 = .ok (.iconst 1, 1) := by decide +kernel
theorem dX2_isAtKerb_40 : decode cX2_isAtKerb 40 = .ok (.goto 4, 3) := by decide +kernel
theorem dX2_isAtKerb_43 : decode cX2_isAtKerb 43 = .ok (.iconst 0, 1) := by decide +kernel
theorem dX2_isAtKerb_44 : decode cX2_isAtKerb 44 = .ok (.ireturn, 1) := by decide +kernel
theorem dX2_isAtKerb_45 : decode cX2_isAtKerb 45 = .ok (.iload_n 3, 1) := by decide +kernel
theorem dX2_isAtKerb_46 : decode cX2_isAtKerb 46 = .ok (.aload_n 0, 1) := by decide +kernel
theorem dX2_isAtKerb_47 : decode cX2_isAtKerb 47 = .ok (.getfield 15, 3) := by decide +kernel
theorem dX2_isAtKerb_50 : decode cX2_isAtKerb 50 = .ok (.iload_n 2, 1) := by decide +kernel
theorem dX2_isAtKerb_51 : decode cX2_isAtKerb 51 = .ok (.iaload, 1) := by decide +kernel
theorem dX2_isAtKerb_52 : decode cX2_isAtKerb 52 = .ok (.isub, 1) := by decide +kernel
theorem dX2_isAtKerb_53 : decode cX2_isAtKerb 53 = .ok (.aload_n 1, 1) := by decide +kernel
theorem dX2_isAtKerb_54 : decode cX2_isAtKerb 54 = .ok (.getfield 78, 3) := by decide +kernel
theorem dX2_isAtKerb_57 : decode cX2_isAtKerb 57 = .ok (.iconst 1, 1) := by decide +kernel
theorem dX2_isAtKerb_58 : decode cX2_isAtKerb 58 = .ok (.iaload, 1) := by decide +kernel
theorem dX2_isAtKerb_59 : decode cX2_isAtKerb 59 = .ok (.if_icmp .gt 7, 3) := by decide +kernel
theorem dX2_isAtKerb_62 : decode cX2_isAtKerb 62 = .ok (.iconst 1, 1) := by decide +kernel
theorem dX2_isAtKerb_63 : decode cX2_isAtKerb 63 = .ok (.goto 4, 3) := by decide +kernel
theorem dX2_isAtKerb_66 : decode cX2_isAtKerb 66 = .ok (.iconst 0, 1) := by decide +kernel
theorem dX2_isAtKerb_67 : decode cX2_isAtKerb 67 = .ok (.ireturn, 1) := by decide +kernel
theorem dX2_ridersIn_0 : decode cX2_ridersIn 0 = .ok (.iconst 0, 1) := by decide +kernel
theorem dX2_ridersIn_1 : decode cX2_ridersIn 1 = .ok (.istore_n 3, 1) := by decide +kernel
theorem dX2_ridersIn_2 : decode cX2_ridersIn 2 = .ok (.iconst 0, 1) := by decide +kernel
theorem dX2_ridersIn_3 : decode cX2_ridersIn 3 = .ok (.istore 4, 2) := by decide +kernel
theorem dX2_ridersIn_5 : decode cX2_ridersIn 5 = .ok (.iload 4, 2) := by decide +kernel
theorem dX2_ridersIn_7 : decode cX2_ridersIn 7 = .ok (.aload_n 1, 1) := by decide +kernel
theorem dX2_ridersIn_8 : decode cX2_ridersIn 8 = .ok (.getfield 34, 3) := by decide +kernel
theorem dX2_ridersIn_11 : decode cX2_ridersIn 11 = .ok (.if_icmp .ge 27, 3) := by decide +kernel
theorem dX2_ridersIn_14 : decode cX2_ridersIn 14 = .ok (.aload_n 0, 1) := by decide +kernel
theorem dX2_ridersIn_15 : decode cX2_ridersIn 15 = .ok (.getfield 18, 3) := by decide +kernel
theorem dX2_ridersIn_18 : decode cX2_ridersIn 18 = .ok (.iload 4, 2) := by decide +kernel
theorem dX2_ridersIn_20 : decode cX2_ridersIn 20 = .ok (.iaload, 1) := by decide +kernel
theorem dX2_ridersIn_21 : decode cX2_ridersIn 21 = .ok (.iload_n 2, 1) := by decide +kernel
theorem dX2_ridersIn_22 : decode cX2_ridersIn 22 = .ok (.if_icmp .ne 10, 3) := by decide +kernel
theorem dX2_ridersIn_25 : decode cX2_ridersIn 25 = .ok (.iload_n 3, 1) := by decide +kernel
theorem dX2_ridersIn_26 : decode cX2_ridersIn 26 = .ok (.iconst 1, 1) := by decide +kernel
theorem dX2_ridersIn_27 : decode cX2_ridersIn 27 = .ok (.iload 4, 2) := by decide +kernel
theorem dX2_ridersIn_29 : decode cX2_ridersIn 29 = .ok (.ishl, 1) := by decide +kernel
theorem dX2_ridersIn_30 : decode cX2_ridersIn 30 = .ok (.ior, 1) := by decide +kernel
theorem dX2_ridersIn_31 : decode cX2_ridersIn 31 = .ok (.istore_n 3, 1) := by decide +kernel
theorem dX2_ridersIn_32 : decode cX2_ridersIn 32 = .ok (.iinc 4 1, 3) := by decide +kernel
theorem dX2_ridersIn_35 : decode cX2_ridersIn 35 = .ok (.goto (-30), 3) := by decide +kernel
theorem dX2_ridersIn_38 : decode cX2_ridersIn 38 = .ok (.iload_n 3, 1) := by decide +kernel
theorem dX2_ridersIn_39 : decode cX2_ridersIn 39 = .ok (.ireturn, 1) := by decide +kernel
theorem dX2_vansWithRiders_0 : decode cX2_vansWithRiders 0 = .ok (.iconst 0, 1) := by decide +kernel
theorem dX2_vansWithRiders_1 : decode cX2_vansWithRiders 1 = .ok (.istore_n 1, 1) := by decide +kernel
theorem dX2_vansWithRiders_2 : decode cX2_vansWithRiders 2 = .ok (.iconst 0, 1) := by decide +kernel
theorem dX2_vansWithRiders_3 : decode cX2_vansWithRiders 3 = .ok (.istore_n 2, 1) := by decide +kernel
theorem dX2_vansWithRiders_4 : decode cX2_vansWithRiders 4 = .ok (.iload_n 2, 1) := by decide +kernel
theorem dX2_vansWithRiders_5 : decode cX2_vansWithRiders 5 = .ok (.bipush 8, 2) := by decide +kernel
theorem dX2_vansWithRiders_7 : decode cX2_vansWithRiders 7 = .ok (.if_icmp .ge 21, 3) := by decide +kernel
theorem dX2_vansWithRiders_10 : decode cX2_vansWithRiders 10 = .ok (.aload_n 0, 1) := by decide +kernel
theorem dX2_vansWithRiders_11 : decode cX2_vansWithRiders 11 = .ok (.getfield 21, 3) := by decide +kernel
theorem dX2_vansWithRiders_14 : decode cX2_vansWithRiders 14 = .ok (.iload_n 2, 1) := by decide +kernel
theorem dX2_vansWithRiders_15 : decode cX2_vansWithRiders 15 = .ok (.iaload, 1) := by decide +kernel
theorem dX2_vansWithRiders_16 : decode cX2_vansWithRiders 16 = .ok (.ifCond .le 6, 3) := by decide +kernel
theorem dX2_vansWithRiders_19 : decode cX2_vansWithRiders 19 = .ok (.iinc 1 1, 3) := by decide +kernel
theorem dX2_vansWithRiders_22 : decode cX2_vansWithRiders 22 = .ok (.iinc 2 1, 3) := by decide +kernel
theorem dX2_vansWithRiders_25 : decode cX2_vansWithRiders 25 = .ok (.goto (-21), 3) := by decide +kernel
theorem dX2_vansWithRiders_28 : decode cX2_vansWithRiders 28 = .ok (.iload_n 1, 1) := by decide +kernel
theorem dX2_vansWithRiders_29 : decode cX2_vansWithRiders 29 = .ok (.ireturn, 1) := by decide +kernel
theorem dX2_peopleOfFlight_0 : decode cX2_peopleOfFlight 0 = .ok (.iconst 0, 1) := by decide +kernel
theorem dX2_peopleOfFlight_1 : decode cX2_peopleOfFlight 1 = .ok (.istore 4, 2) := by decide +kernel
theorem dX2_peopleOfFlight_3 : decode cX2_peopleOfFlight 3 = .ok (.iconst 0, 1) := by decide +kernel
theorem dX2_peopleOfFlight_4 : decode cX2_peopleOfFlight 4 = .ok (.istore 5, 2) := by decide +kernel
theorem dX2_peopleOfFlight_6 : decode cX2_peopleOfFlight 6 = .ok (.iload 5, 2) := by decide +kernel
theorem dX2_peopleOfFlight_8 : decode cX2_peopleOfFlight 8 = .ok (.aload_n 1, 1) := by decide +kernel
theorem dX2_peopleOfFlight_9 : decode cX2_peopleOfFlight 9 = .ok (.getfield 34, 3) := by decide +kernel
theorem dX2_peopleOfFlight_12 : decode cX2_peopleOfFlight 12 = .ok (.if_icmp .ge 60, 3) := by decide +kernel
theorem dX2_peopleOfFlight_15 : decode cX2_peopleOfFlight 15 = .ok (.iload_n 3, 1) := by decide +kernel
theorem dX2_peopleOfFlight_16 : decode cX2_peopleOfFlight 16 = .ok (.ifCond .eq 15, 3) := by decide +kernel
theorem dX2_peopleOfFlight_19 : decode cX2_peopleOfFlight 19 = .ok (.aload_n 0, 1) := by decide +kernel
theorem dX2_peopleOfFlight_20 : decode cX2_peopleOfFlight 20 = .ok (.getfield 18, 3) := by decide +kernel
theorem dX2_peopleOfFlight_23 : decode cX2_peopleOfFlight 23 = .ok (.iload 5, 2) := by decide +kernel
theorem dX2_peopleOfFlight_25 : decode cX2_peopleOfFlight 25 = .ok (.iaload, 1) := by decide +kernel
theorem dX2_peopleOfFlight_26 : decode cX2_peopleOfFlight 26 = .ok (.bipush (-106), 2) := by decide +kernel
theorem dX2_peopleOfFlight_28 : decode cX2_peopleOfFlight 28 = .ok (.if_icmp .ne 7, 3) := by decide +kernel
theorem dX2_peopleOfFlight_31 : decode cX2_peopleOfFlight 31 = .ok (.iconst 1, 1) := by decide +kernel
theorem dX2_peopleOfFlight_32 : decode cX2_peopleOfFlight 32 = .ok (.goto 4, 3) := by decide +kernel
theorem dX2_peopleOfFlight_35 : decode cX2_peopleOfFlight 35 = .ok (.iconst 0, 1) := by decide +kernel
theorem dX2_peopleOfFlight_36 : decode cX2_peopleOfFlight 36 = .ok (.istore 6, 2) := by decide +kernel
theorem dX2_peopleOfFlight_38 : decode cX2_peopleOfFlight 38 = .ok (.iload 6, 2) := by decide +kernel
theorem dX2_peopleOfFlight_40 : decode cX2_peopleOfFlight 40 = .ok (.ifCond .eq 26, 3) := by decide +kernel
theorem dX2_peopleOfFlight_43 : decode cX2_peopleOfFlight 43 = .ok (.aload_n 1, 1) := by decide +kernel
theorem dX2_peopleOfFlight_44 : decode cX2_peopleOfFlight 44 = .ok (.getfield 93, 3) := by decide +kernel
theorem dX2_peopleOfFlight_47 : decode cX2_peopleOfFlight 47 = .ok (.iload 5, 2) := by decide +kernel
theorem dX2_peopleOfFlight_49 : decode cX2_peopleOfFlight 49 = .ok (.iaload, 1) := by decide +kernel
theorem dX2_peopleOfFlight_50 : decode cX2_peopleOfFlight 50 = .ok (.iload_n 2, 1) := by decide +kernel
theorem dX2_peopleOfFlight_51 : decode cX2_peopleOfFlight 51 = .ok (.if_icmp .ne 15, 3) := by decide +kernel
theorem dX2_peopleOfFlight_54 : decode cX2_peopleOfFlight 54 = .ok (.iload 4, 2) := by decide +kernel
theorem dX2_peopleOfFlight_56 : decode cX2_peopleOfFlight 56 = .ok (.aload_n 1, 1) := by decide +kernel
theorem dX2_peopleOfFlight_57 : decode cX2_peopleOfFlight 57 = .ok (.getfield 57, 3) := by decide +kernel
theorem dX2_peopleOfFlight_60 : decode cX2_peopleOfFlight 60 = .ok (.iload 5, 2) := by decide +kernel
theorem dX2_peopleOfFlight_62 : decode cX2_peopleOfFlight 62 = .ok (.iaload, 1) := by decide +kernel
theorem dX2_peopleOfFlight_63 : decode cX2_peopleOfFlight 63 = .ok (.iadd, 1) := by decide +kernel
theorem dX2_peopleOfFlight_64 : decode cX2_peopleOfFlight 64 = .ok (.istore 4, 2) := by decide +kernel
theorem dX2_peopleOfFlight_66 : decode cX2_peopleOfFlight 66 = .ok (.iinc 5 1, 3) := by decide +kernel
theorem dX2_peopleOfFlight_69 : decode cX2_peopleOfFlight 69 = .ok (.goto (-63), 3) := by decide +kernel
theorem dX2_peopleOfFlight_72 : decode cX2_peopleOfFlight 72 = .ok (.iload 4, 2) := by decide +kernel
theorem dX2_peopleOfFlight_74 : decode cX2_peopleOfFlight 74 = .ok (.ireturn, 1) := by decide +kernel
theorem dX2_othersAtStop_0 : decode cX2_othersAtStop 0 = .ok (.aload_n 0, 1) := by decide +kernel
theorem dX2_othersAtStop_1 : decode cX2_othersAtStop 1 = .ok (.getfield 18, 3) := by decide +kernel
theorem dX2_othersAtStop_4 : decode cX2_othersAtStop 4 = .ok (.iload_n 2, 1) := by decide +kernel
theorem dX2_othersAtStop_5 : decode cX2_othersAtStop 5 = .ok (.iaload, 1) := by decide +kernel
theorem dX2_othersAtStop_6 : decode cX2_othersAtStop 6 = .ok (.bipush (-106), 2) := by decide +kernel
theorem dX2_othersAtStop_8 : decode cX2_othersAtStop 8 = .ok (.if_icmp .ne 5, 3) := by decide +kernel
theorem dX2_othersAtStop_11 : decode cX2_othersAtStop 11 = .ok (.iconst 0, 1) := by decide +kernel
theorem dX2_othersAtStop_12 : decode cX2_othersAtStop 12 = .ok (.ireturn, 1) := by decide +kernel
theorem dX2_othersAtStop_13 : decode cX2_othersAtStop 13 = .ok (.iconst 0, 1) := by decide +kernel
theorem dX2_othersAtStop_14 : decode cX2_othersAtStop 14 = .ok (.istore_n 3, 1) := by decide +kernel
theorem dX2_othersAtStop_15 : decode cX2_othersAtStop 15 = .ok (.iconst 0, 1) := by decide +kernel
theorem dX2_othersAtStop_16 : decode cX2_othersAtStop 16 = .ok (.istore 4, 2) := by decide +kernel
theorem dX2_othersAtStop_18 : decode cX2_othersAtStop 18 = .ok (.iload 4, 2) := by decide +kernel
theorem dX2_othersAtStop_20 : decode cX2_othersAtStop 20 = .ok (.aload_n 1, 1) := by decide +kernel
theorem dX2_othersAtStop_21 : decode cX2_othersAtStop 21 = .ok (.getfield 34, 3) := by decide +kernel
theorem dX2_othersAtStop_24 : decode cX2_othersAtStop 24 = .ok (.if_icmp .ge 30, 3) := by decide +kernel
theorem dX2_othersAtStop_27 : decode cX2_othersAtStop 27 = .ok (.iload 4, 2) := by decide +kernel
