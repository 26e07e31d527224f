theorem dX4_follow_58 : decode cX4_follow 58 = .ok (.invokevirtual 47, 3) := by decide +kernel
theorem dX4_follow_61 : decode cX4_follow 61 = .ok (.return_, 1) := by decide +kernel
theorem dX4_letOut_0 : decode cX4_letOut 0 = .ok (.aload_n 0, 1) := by decide +kernel
theorem dX4_letOut_1 : decode cX4_letOut 1 = .ok (.iload_n 1, 1) := by decide +kernel
theorem dX4_letOut_2 : decode cX4_letOut 2 = .ok (.invokevirtual 51, 3) := by decide +kernel
theorem dX4_letOut_5 : decode cX4_letOut 5 = .ok (.istore_n 3, 1) := by decide +kernel
theorem dX4_letOut_6 : decode cX4_letOut 6 = .ok (.iload_n 3, 1) := by decide +kernel
theorem dX4_letOut_7 : decode cX4_letOut 7 = .ok (.bipush 24, 2) := by decide +kernel
theorem dX4_letOut_9 : decode cX4_letOut 9 = .ok (.if_icmp .lt 4, 3) := by decide +kernel
theorem dX4_letOut_12 : decode cX4_letOut 12 = .ok (.return_, 1) := by decide +kernel
theorem dX4_letOut_13 : decode cX4_letOut 13 = .ok (.iload_n 3, 1) := by decide +kernel
theorem dX4_letOut_14 : decode cX4_letOut 14 = .ok (.aload_n 0, 1) := by decide +kernel
theorem dX4_letOut_15 : decode cX4_letOut 15 = .ok (.getfield 21, 3) := by decide +kernel
theorem dX4_letOut_18 : decode cX4_letOut 18 = .ok (.if_icmp .eq 13, 3) := by decide +kernel
theorem dX4_letOut_21 : decode cX4_letOut 21 = .ok (.aload_n 0, 1) := by decide +kernel
theorem dX4_letOut_22 : decode cX4_letOut 22 = .ok (.getfield 9, 3) := by decide +kernel
theorem dX4_letOut_25 : decode cX4_letOut 25 = .ok (.iload_n 3, 1) := by decide +kernel
theorem dX4_letOut_26 : decode cX4_letOut 26 = .ok (.iaload, 1) := by decide +kernel
theorem dX4_letOut_27 : decode cX4_letOut 27 = .ok (.iload_n 1, 1) := by decide +kernel
theorem dX4_letOut_28 : decode cX4_letOut 28 = .ok (.if_icmp .eq 9, 3) := by decide +kernel
theorem dX4_letOut_31 : decode cX4_letOut 31 = .ok (.aload_n 0, 1) := by decide +kernel
theorem dX4_letOut_32 : decode cX4_letOut 32 = .ok (.iload_n 3, 1) := by decide +kernel
theorem dX4_letOut_33 : decode cX4_letOut 33 = .ok (.iload_n 1, 1) := by decide +kernel
theorem dX4_letOut_34 : decode cX4_letOut 34 = .ok (.invokevirtual 54, 3) := by decide +kernel
theorem dX4_letOut_37 : decode cX4_letOut 37 = .ok (.aload_n 0, 1) := by decide +kernel
theorem dX4_letOut_38 : decode cX4_letOut 38 = .ok (.getfield 15, 3) := by decide +kernel
theorem dX4_letOut_41 : decode cX4_letOut 41 = .ok (.iload_n 3, 1) := by decide +kernel
theorem dX4_letOut_42 : decode cX4_letOut 42 = .ok (.dup2, 1) := by decide +kernel
theorem dX4_letOut_43 : decode cX4_letOut 43 = .ok (.iaload, 1) := by decide +kernel
theorem dX4_letOut_44 : decode cX4_letOut 44 = .ok (.iload_n 2, 1) := by decide +kernel
theorem dX4_letOut_45 : decode cX4_letOut 45 = .ok (.iadd, 1) := by decide +kernel
theorem dX4_letOut_46 : decode cX4_letOut 46 = .ok (.iastore, 1) := by decide +kernel
theorem dX4_letOut_47 : decode cX4_letOut 47 = .ok (.return_, 1) := by decide +kernel
theorem dX4_placeFor_0 : decode cX4_placeFor 0 = .ok (.iconst 0, 1) := by decide +kernel
theorem dX4_placeFor_1 : decode cX4_placeFor 1 = .ok (.istore_n 2, 1) := by decide +kernel
theorem dX4_placeFor_2 : decode cX4_placeFor 2 = .ok (.iload_n 2, 1) := by decide +kernel
theorem dX4_placeFor_3 : decode cX4_placeFor 3 = .ok (.aload_n 0, 1) := by decide +kernel
theorem dX4_placeFor_4 : decode cX4_placeFor 4 = .ok (.getfield 21, 3) := by decide +kernel
theorem dX4_placeFor_7 : decode cX4_placeFor 7 = .ok (.if_icmp .ge 19, 3) := by decide +kernel
theorem dX4_placeFor_10 : decode cX4_placeFor 10 = .ok (.aload_n 0, 1) := by decide +kernel
theorem dX4_placeFor_11 : decode cX4_placeFor 11 = .ok (.getfield 9, 3) := by decide +kernel
theorem dX4_placeFor_14 : decode cX4_placeFor 14 = .ok (.iload_n 2, 1) := by decide +kernel
theorem dX4_placeFor_15 : decode cX4_placeFor 15 = .ok (.iaload, 1) := by decide +kernel
theorem dX4_placeFor_16 : decode cX4_placeFor 16 = .ok (.iload_n 1, 1) := by decide +kernel
theorem dX4_placeFor_17 : decode cX4_placeFor 17 = .ok (.if_icmp .ge 9, 3) := by decide +kernel
theorem dX4_placeFor_20 : decode cX4_placeFor 20 = .ok (.iinc 2 1, 3) := by decide +kernel
theorem dX4_placeFor_23 : decode cX4_placeFor 23 = .ok (.goto (-21), 3) := by decide +kernel
theorem dX4_placeFor_26 : decode cX4_placeFor 26 = .ok (.iload_n 2, 1) := by decide +kernel
theorem dX4_placeFor_27 : decode cX4_placeFor 27 = .ok (.ireturn, 1) := by decide +kernel
theorem dX4_openStop_0 : decode cX4_openStop 0 = .ok (.aload_n 0, 1) := by decide +kernel
theorem dX4_openStop_1 : decode cX4_openStop 1 = .ok (.getfield 21, 3) := by decide +kernel
theorem dX4_openStop_4 : decode cX4_openStop 4 = .ok (.bipush 24, 2) := by decide +kernel
theorem dX4_openStop_6 : decode cX4_openStop 6 = .ok (.if_icmp .lt 4, 3) := by decide +kernel
theorem dX4_openStop_9 : decode cX4_openStop 9 = .ok (.return_, 1) := by decide +kernel
theorem dX4_openStop_10 : decode cX4_openStop 10 = .ok (.aload_n 0, 1) := by decide +kernel
theorem dX4_openStop_11 : decode cX4_openStop 11 = .ok (.getfield 21, 3) := by decide +kernel
theorem dX4_openStop_14 : decode cX4_openStop 14 = .ok (.istore_n 3, 1) := by decide +kernel
theorem dX4_openStop_15 : decode cX4_openStop 15 = .ok (.iload_n 3, 1) := by decide +kernel
theorem dX4_openStop_16 : decode cX4_openStop 16 = .ok (.iload_n 1, 1) := by decide +kernel
theorem dX4_openStop_17 : decode cX4_openStop 17 = .ok (.if_icmp .le 37, 3) := by decide +kernel
theorem dX4_openStop_20 : decode cX4_openStop 20 = .ok (.aload_n 0, 1) := by decide +kernel
theorem dX4_openStop_21 : decode cX4_openStop 21 = .ok (.getfield 9, 3) := by decide +kernel
theorem dX4_openStop_24 : decode cX4_openStop 24 = .ok (.iload_n 3, 1) := by decide +kernel
theorem dX4_openStop_25 : decode cX4_openStop 25 = .ok (.aload_n 0, 1) := by decide +kernel
theorem dX4_openStop_26 : decode cX4_openStop 26 = .ok (.getfield 9, 3) := by decide +kernel
theorem dX4_openStop_29 : decode cX4_openStop 29 = .ok (.iload_n 3, 1) := by decide +kernel
theorem dX4_openStop_30 : decode cX4_openStop 30 = .ok (.iconst 1, 1) := by decide +kernel
theorem dX4_openStop_31 : decode cX4_openStop 31 = .ok (.isub, 1) := by decide +kernel
theorem dX4_openStop_32 : decode cX4_openStop 32 = .ok (.iaload, 1) := by decide +kernel
theorem dX4_openStop_33 : decode cX4_openStop 33 = .ok (.iastore, 1) := by decide +kernel
theorem dX4_openStop_34 : decode cX4_openStop 34 = .ok (.aload_n 0, 1) := by decide +kernel
theorem dX4_openStop_35 : decode cX4_openStop 35 = .ok (.getfield 15, 3) := by decide +kernel
theorem dX4_openStop_38 : decode cX4_openStop 38 = .ok (.iload_n 3, 1) := by decide +kernel
theorem dX4_openStop_39 : decode cX4_openStop 39 = .ok (.aload_n 0, 1) := by decide +kernel
theorem dX4_openStop_40 : decode cX4_openStop 40 = .ok (.getfield 15, 3) := by decide +kernel
theorem dX4_openStop_43 : decode cX4_openStop 43 = .ok (.iload_n 3, 1) := by decide +kernel
theorem dX4_openStop_44 : decode cX4_openStop 44 = .ok (.iconst 1, 1) := by decide +kernel
theorem dX4_openStop_45 : decode cX4_openStop 45 = .ok (.isub, 1) := by decide +kernel
theorem dX4_openStop_46 : decode cX4_openStop 46 = .ok (.iaload, 1) := by decide +kernel
theorem dX4_openStop_47 : decode cX4_openStop 47 = .ok (.iastore, 1) := by decide +kernel
theorem dX4_openStop_48 : decode cX4_openStop 48 = .ok (.iinc 3 (-1), 3) := by decide +kernel
theorem dX4_openStop_51 : decode cX4_openStop 51 = .ok (.goto (-36), 3) := by decide +kernel
theorem dX4_openStop_54 : decode cX4_openStop 54 = .ok (.aload_n 0, 1) := by decide +kernel
theorem dX4_openStop_55 : decode cX4_openStop 55 = .ok (.getfield 9, 3) := by decide +kernel
theorem dX4_openStop_58 : decode cX4_openStop 58 = .ok (.iload_n 1, 1) := by decide +kernel
theorem dX4_openStop_59 : decode cX4_openStop 59 = .ok (.iload_n 2, 1) := by decide +kernel
theorem dX4_openStop_60 : decode cX4_openStop 60 = .ok (.iastore, 1) := by decide +kernel
theorem dX4_openStop_61 : decode cX4_openStop 61 = .ok (.aload_n 0, 1) := by decide +kernel
theorem dX4_openStop_62 : decode cX4_openStop 62 = .ok (.getfield 15, 3) := by decide +kernel
theorem dX4_openStop_65 : decode cX4_openStop 65 = .ok (.iload_n 1, 1) := by decide +kernel
theorem dX4_openStop_66 : decode cX4_openStop 66 = .ok (.iconst 0, 1) := by decide +kernel
theorem dX4_openStop_67 : decode cX4_openStop 67 = .ok (.iastore, 1) := by decide +kernel
theorem dX4_openStop_68 : decode cX4_openStop 68 = .ok (.aload_n 0, 1) := by decide +kernel
theorem dX4_openStop_69 : decode cX4_openStop 69 = .ok (.dup, 1) := by decide +kernel
theorem dX4_openStop_70 : decode cX4_openStop 70 = .ok (.getfield 21, 3) := by decide +kernel
theorem dX4_openStop_73 : decode cX4_openStop 73 = .ok (.iconst 1, 1) := by decide +kernel
theorem dX4_openStop_74 : decode cX4_openStop 74 = .ok (.iadd, 1) := by decide +kernel
theorem dX4_openStop_75 : decode cX4_openStop 75 = .ok (.putfield 21, 3) := by decide +kernel
theorem dX4_openStop_78 : decode cX4_openStop 78 = .ok (.return_, 1) := by decide +kernel
theorem dX4_tellMinutes_0 : decode cX4_tellMinutes 0 = .ok (.iconst 0, 1) := by decide +kernel
theorem dX4_tellMinutes_1 : decode cX4_tellMinutes 1 = .ok (.istore_n 2, 1) := by decide +kernel
theorem dX4_tellMinutes_2 : decode cX4_tellMinutes 2 = .ok (.iload_n 2, 1) := by decide +kernel
theorem dX4_tellMinutes_3 : decode cX4_tellMinutes 3 = .ok (.aload_n 0, 1) := by decide +kernel
theorem dX4_tellMinutes_4 : decode cX4_tellMinutes 4 = .ok (.getfield 21, 3) := by decide +kernel
theorem dX4_tellMinutes_7 : decode cX4_tellMinutes 7 = .ok (.if_icmp .ge 83, 3) := by decide +kernel
theorem dX4_tellMinutes_10 : decode cX4_tellMinutes 10 = .ok (.aload_n 0, 1) := by decide +kernel
theorem dX4_tellMinutes_11 : decode cX4_tellMinutes 11 = .ok (.getfield 9, 3) := by decide +kernel
theorem dX4_tellMinutes_14 : decode cX4_tellMinutes 14 = .ok (.iload_n 2, 1) := by decide +kernel
theorem dX4_tellMinutes_15 : decode cX4_tellMinutes 15 = .ok (.iaload, 1) := by decide +kernel
theorem dX4_tellMinutes_16 : decode cX4_tellMinutes 16 = .ok (.invokestatic 57, 3) := by decide +kernel
theorem dX4_tellMinutes_19 : decode cX4_tellMinutes 19 = .ok (.istore_n 3, 1) := by decide +kernel
theorem dX4_tellMinutes_20 : decode cX4_tellMinutes 20 = .ok (.iload_n 2, 1) := by decide +kernel
theorem dX4_tellMinutes_21 : decode cX4_tellMinutes 21 = .ok (.ifCond .ne 20, 3) := by decide +kernel
theorem dX4_tellMinutes_24 : decode cX4_tellMinutes 24 = .ok (.aload_n 0, 1) := by decide +kernel
theorem dX4_tellMinutes_25 : decode cX4_tellMinutes 25 = .ok (.getfield 18, 3) := by decide +kernel
theorem dX4_tellMinutes_28 : decode cX4_tellMinutes 28 = .ok (.iload_n 2, 1) := by decide +kernel
theorem dX4_tellMinutes_29 : decode cX4_tellMinutes 29 = .ok (.iload_n 1, 1) := by decide +kernel
theorem dX4_tellMinutes_30 : decode cX4_tellMinutes 30 = .ok (.bipush 10, 2) := by decide +kernel
theorem dX4_tellMinutes_32 : decode cX4_tellMinutes 32 = .ok (.iadd, 1) := by decide +kernel
theorem dX4_tellMinutes_33 : decode cX4_tellMinutes 33 = .ok (.iconst 5, 1) := by decide +kernel
theorem dX4_tellMinutes_34 : decode cX4_tellMinutes 34 = .ok (.iload_n 3, 1) := by decide +kernel
theorem dX4_tellMinutes_35 : decode cX4_tellMinutes 35 = .ok (.imul, 1) := by decide +kernel
theorem dX4_tellMinutes_36 : decode cX4_tellMinutes 36 = .ok (.iadd, 1) := by decide +kernel
theorem dX4_tellMinutes_37 : decode cX4_tellMinutes 37 = .ok (.iastore, 1) := by decide +kernel
theorem dX4_tellMinutes_38 : decode cX4_tellMinutes 38 = .ok (.goto 46, 3) := by decide +kernel
theorem dX4_tellMinutes_41 : decode cX4_tellMinutes 41 = .ok (.iload_n 3, 1) := by decide +kernel
theorem dX4_tellMinutes_42 : decode cX4_tellMinutes 42 = .ok (.aload_n 0, 1) := by decide +kernel
theorem dX4_tellMinutes_43 : decode cX4_tellMinutes 43 = .ok (.getfield 9, 3) := by decide +kernel
theorem dX4_tellMinutes_46 : decode cX4_tellMinutes 46 = .ok (.iload_n 2, 1) := by decide +kernel
theorem dX4_tellMinutes_47 : decode cX4_tellMinutes 47 = .ok (.iconst 1, 1) := by decide +kernel
theorem dX4_tellMinutes_48 : decode cX4_tellMinutes 48 = .ok (.isub, 1) := by decide +kernel
theorem dX4_tellMinutes_49 : decode cX4_tellMinutes 49 = .ok (.iaload, 1) := by decide +kernel
theorem dX4_tellMinutes_50 : decode cX4_tellMinutes 50 = .ok (.invokestatic 57, 3) := by decide +kernel
theorem dX4_tellMinutes_53 : decode cX4_tellMinutes 53 = .ok (.isub, 1) := by decide +kernel
theorem dX4_tellMinutes_54 : decode cX4_tellMinutes 54 = .ok (.istore 4, 2) := by decide +kernel
theorem dX4_tellMinutes_56 : decode cX4_tellMinutes 56 = .ok (.aload_n 0, 1) := by decide +kernel
theorem dX4_tellMinutes_57 : decode cX4_tellMinutes 57 = .ok (.getfield 18, 3) := by decide +kernel
theorem dX4_tellMinutes_60 : decode cX4_tellMinutes 60 = .ok (.iload_n 2, 1) := by decide +kernel
theorem dX4_tellMinutes_61 : decode cX4_tellMinutes 61 = .ok (.aload_n 0, 1) := by decide +kernel
theorem dX4_tellMinutes_62 : decode cX4_tellMinutes 62 = .ok (.getfield 18, 3) := by decide +kernel
theorem dX4_tellMinutes_65 : decode cX4_tellMinutes 65 = .ok (.iload_n 2, 1) := by decide +kernel
theorem dX4_tellMinutes_66 : decode cX4_tellMinutes 66 = .ok (.iconst 1, 1) := by decide +kernel
theorem dX4_tellMinutes_67 : decode cX4_tellMinutes 67 = .ok (.isub, 1) := by decide +kernel
theorem dX4_tellMinutes_68 : decode cX4_tellMinutes 68 = .ok (.iaload, 1) := by decide +kernel
theorem dX4_tellMinutes_69 : decode cX4_tellMinutes 69 = .ok (.iload 4, 2) := by decide +kernel
theorem dX4_tellMinutes_71 : decode cX4_tellMinutes 71 = .ok (.ifCond .le 10, 3) := by decide +kernel
theorem dX4_tellMinutes_74 : decode cX4_tellMinutes 74 = .ok (.iconst 5, 1) := by decide +kernel
theorem dX4_tellMinutes_75 : decode cX4_tellMinutes 75 = .ok (.iload 4, 2) := by decide +kernel
theorem dX4_tellMinutes_77 : decode cX4_tellMinutes 77 = .ok (.imul, 1) := by decide +kernel
theorem dX4_tellMinutes_78 : decode cX4_tellMinutes 78 = .ok (.goto 4, 3) := by decide +kernel
theorem dX4_tellMinutes_81 : decode cX4_tellMinutes 81 = .ok (.iconst 3, 1) := by decide +kernel
theorem dX4_tellMinutes_82 : decode cX4_tellMinutes 82 = .ok (.iadd, 1) := by decide +kernel
theorem dX4_tellMinutes_83 : decode cX4_tellMinutes 83 = .ok (.iastore, 1) := by decide +kernel
theorem dX4_tellMinutes_84 : decode cX4_tellMinutes 84 = .ok (.iinc 2 1, 3) := by decide +kernel
theorem dX4_tellMinutes_87 : decode cX4_tellMinutes 87 = .ok (.goto (-85), 3) := by decide +kernel
theorem dX4_tellMinutes_90 : decode cX4_tellMinutes 90 = .ok (.return_, 1) := by decide +kernel
theorem dX4_lastMinute_0 : decode cX4_lastMinute 0 = .ok (.aload_n 0, 1) := by decide +kernel
theorem dX4_lastMinute_1 : decode cX4_lastMinute 1 = .ok (.getfield 21, 3) := by decide +kernel
theorem dX4_lastMinute_4 : decode cX4_lastMinute 4 = .ok (.ifCond .le 17, 3) := by decide +kernel
theorem dX4_lastMinute_7 : decode cX4_lastMinute 7 = .ok (.aload_n 0, 1) := by decide +kernel
theorem dX4_lastMinute_8 : decode cX4_lastMinute 8 = .ok (.getfield 18, 3) := by decide +kernel
theorem dX4_lastMinute_11 : decode cX4_lastMinute 11 = .ok (.aload_n 0, 1) := by decide +kernel
theorem dX4_lastMinute_12 : decode cX4_lastMinute 12 = .ok (.getfield 21, 3) := by decide +kernel
theorem dX4_lastMinute_15 : decode cX4_lastMinute 15 = .ok (.iconst 1, 1) := by decide +kernel
theorem dX4_lastMinute_16 : decode cX4_lastMinute 16 = .ok (.isub, 1) := by decide +kernel
theorem dX4_lastMinute_17 : decode cX4_lastMinute 17 = .ok (.iaload, 1) := by decide +kernel
theorem dX4_lastMinute_18 : decode cX4_lastMinute 18 = .ok (.goto 5, 3) := by decide +kernel
theorem dX4_lastMinute_21 : decode cX4_lastMinute 21 = .ok (.bipush (-106), 2) := by decide +kernel
theorem dX4_lastMinute_23 : decode cX4_lastMinute 23 = .ok (.ireturn, 1) := by decide +kernel
theorem dX4_minuteAt_0 : decode cX4_minuteAt 0 = .ok (.aload_n 0, 1) := by decide +kernel
theorem dX4_minuteAt_1 : decode cX4_minuteAt 1 = .ok (.iload_n 1, 1) := by decide +kernel
theorem dX4_minuteAt_2 : decode cX4_minuteAt 2 = .ok (.invokevirtual 51, 3) := by decide +kernel
theorem dX4_minuteAt_5 : decode cX4_minuteAt 5 = .ok (.istore_n 2, 1) := by decide +kernel
theorem dX4_minuteAt_6 : decode cX4_minuteAt 6 = .ok (.iload_n 2, 1) := by decide +kernel
theorem dX4_minuteAt_7 : decode cX4_minuteAt 7 = .ok (.aload_n 0, 1) := by decide +kernel
theorem dX4_minuteAt_8 : decode cX4_minuteAt 8 = .ok (.getfield 21, 3) := by decide +kernel
theorem dX4_minuteAt_11 : decode cX4_minuteAt 11 = .ok (.if_icmp .ge 12, 3) := by decide +kernel
theorem dX4_minuteAt_14 : decode cX4_minuteAt 14 = .ok (.aload_n 0, 1) := by decide +kernel
theorem dX4_minuteAt_15 : decode cX4_minuteAt 15 = .ok (.getfield 18, 3) := by decide +kernel
theorem dX4_minuteAt_18 : decode cX4_minuteAt 18 = .ok (.iload_n 2, 1) := by decide +kernel
theorem dX4_minuteAt_19 : decode cX4_minuteAt 19 = .ok (.iaload, 1) := by decide +kernel
theorem dX4_minuteAt_20 : decode cX4_minuteAt 20 = .ok (.goto 5, 3) := by decide +kernel
theorem dX4_minuteAt_23 : decode cX4_minuteAt 23 = .ok (.bipush (-106), 2) := by decide +kernel
theorem dX4_minuteAt_25 : decode cX4_minuteAt 25 = .ok (.ireturn, 1) := by decide +kernel
theorem dX5_init_0 : decode cX5_init 0 = .ok (.aload_n 0, 1) := by decide +kernel
theorem dX5_init_1 : decode cX5_init 1 = .ok (.invokespecial 1, 3) := by decide +kernel
theorem dX5_init_4 : decode cX5_init 4 = .ok (.aload_n 0, 1) := by decide +kernel
theorem dX5_init_5 : decode cX5_init 5 = .ok (.new 7, 3) := by decide +kernel
theorem dX5_init_8 : decode cX5_init 8 = .ok (.dup, 1) := by decide +kernel
theorem dX5_init_9 : decode cX5_init 9 = .ok (.invokespecial 9, 3) := by decide +kernel
theorem dX5_init_12 : decode cX5_init 12 = .ok (.putfield 10, 3) := by decide +kernel
theorem dX5_init_15 : decode cX5_init 15 = .ok (.aload_n 0, 1) := by decide +kernel
theorem dX5_init_16 : decode cX5_init 16 = .ok (.new 16, 3) := by decide +kernel
theorem dX5_init_19 : decode cX5_init 19 = .ok (.dup, 1) := by decide +kernel
theorem dX5_init_20 : decode cX5_init 20 = .ok (.invokespecial 18, 3) := by decide +kernel
theorem dX5_init_23 : decode cX5_init 23 = .ok (.putfield 19, 3) := by decide +kernel
theorem dX5_init_26 : decode cX5_init 26 = .ok (.aload_n 0, 1) := by decide +kernel
theorem dX5_init_27 : decode cX5_init 27 = .ok (.new 23, 3) := by decide +kernel
theorem dX5_init_30 : decode cX5_init 30 = .ok (.dup, 1) := by decide +kernel
theorem dX5_init_31 : decode cX5_init 31 = .ok (.invokespecial 25, 3) := by decide +kernel
theorem dX5_init_34 : decode cX5_init 34 = .ok (.putfield 26, 3) := by decide +kernel
theorem dX5_init_37 : decode cX5_init 37 = .ok (.aload_n 0, 1) := by decide +kernel
theorem dX5_init_38 : decode cX5_init 38 = .ok (.new 7, 3) := by decide +kernel
theorem dX5_init_41 : decode cX5_init 41 = .ok (.dup, 1) := by decide +kernel
theorem dX5_init_42 : decode cX5_init 42 = .ok (.invokespecial 9, 3) := by decide +kernel
theorem dX5_init_45 : decode cX5_init 45 = .ok (.putfield 30, 3) := by decide +kernel
theorem dX5_init_48 : decode cX5_init 48 = .ok (.aload_n 0, 1) := by decide +kernel
theorem dX5_init_49 : decode cX5_init 49 = .ok (.new 16, 3) := by decide +kernel
theorem dX5_init_52 : decode cX5_init 52 = .ok (.dup, 1) := by decide +kernel
theorem dX5_init_53 : decode cX5_init 53 = .ok (.invokespecial 18, 3) := by decide +kernel
theorem dX5_init_56 : decode cX5_init 56 = .ok (.putfield 33, 3) := by decide +kernel
theorem dX5_init_59 : decode cX5_init 59 = .ok (.aload_n 0, 1) := by decide +kernel
theorem dX5_init_60 : decode cX5_init 60 = .ok (.new 36, 3) := by decide +kernel
theorem dX5_init_63 : decode cX5_init 63 = .ok (.dup, 1) := by decide +kernel
theorem dX5_init_64 : decode cX5_init 64 = .ok (.invokespecial 38, 3) := by decide +kernel
theorem dX5_init_67 : decode cX5_init 67 = .ok (.putfield 39, 3) := by decide +kernel
theorem dX5_init_70 : decode cX5_init 70 = .ok (.aload_n 0, 1) := by decide +kernel
theorem dX5_init_71 : decode cX5_init 71 = .ok (.new 43, 3) := by decide +kernel
theorem dX5_init_74 : decode cX5_init 74 = .ok (.dup, 1) := by decide +kernel
theorem dX5_init_75 : decode cX5_init 75 = .ok (.invokespecial 45, 3) := by decide +kernel
theorem dX5_init_78 : decode cX5_init 78 = .ok (.putfield 46, 3) := by decide +kernel
theorem dX5_init_81 : decode cX5_init 81 = .ok (.aload_n 0, 1) := by decide +kernel
theorem dX5_init_82 : decode cX5_init 82 = .ok (.iconst 2, 1) := by decide +kernel
theorem dX5_init_83 : decode cX5_init 83 = .ok (.anewarray 7, 3) := by decide +kernel
theorem dX5_init_86 : decode cX5_init 86 = .ok (.putfield 50, 3) := by decide +kernel
theorem dX5_init_89 : decode cX5_init 89 = .ok (.return_, 1) := by decide +kernel
theorem dX5_set_0 : decode cX5_set 0 = .ok (.iload_n 1, 1) := by decide +kernel
theorem dX5_set_1 : decode cX5_set 1 = .ok (.iconst 0, 1) := by decide +kernel
theorem dX5_set_2 : decode cX5_set 2 = .ok (.iconst 4, 1) := by decide +kernel
theorem dX5_set_3 : decode cX5_set 3 = .ok (.invokestatic 54, 3) := by decide +kernel
theorem dX5_set_6 : decode cX5_set 6 = .ok (.ifCond .ne 6, 3) := by decide +kernel
theorem dX5_set_9 : decode cX5_set 9 = .ok (.bipush (-102), 2) := by decide +kernel
theorem dX5_set_11 : decode cX5_set 11 = .ok (.ireturn, 1) := by decide +kernel
theorem dX5_set_12 : decode cX5_set 12 = .ok (.iload_n 2, 1) := by decide +kernel
theorem dX5_set_13 : decode cX5_set 13 = .ok (.getstatic 58, 3) := by decide +kernel
theorem dX5_set_16 : decode cX5_set 16 = .ok (.iload_n 1, 1) := by decide +kernel
theorem dX5_set_17 : decode cX5_set 17 = .ok (.iaload, 1) := by decide +kernel
theorem dX5_set_18 : decode cX5_set 18 = .ok (.getstatic 62, 3) := by decide +kernel
theorem dX5_set_21 : decode cX5_set 21 = .ok (.iload_n 1, 1) := by decide +kernel
theorem dX5_set_22 : decode cX5_set 22 = .ok (.iaload, 1) := by decide +kernel
theorem dX5_set_23 : decode cX5_set 23 = .ok (.invokestatic 54, 3) := by decide +kernel
theorem dX5_set_26 : decode cX5_set 26 = .ok (.ifCond .ne 6, 3) := by decide +kernel
theorem dX5_set_29 : decode cX5_set 29 = .ok (.bipush (-102), 2) := by decide +kernel
theorem dX5_set_31 : decode cX5_set 31 = .ok (.ireturn, 1) := by decide +kernel
theorem dX5_set_32 : decode cX5_set 32 = .ok (.aload_n 0, 1) := by decide +kernel
theorem dX5_set_33 : decode cX5_set 33 = .ok (.getfield 10, 3) := by decide +kernel
theorem dX5_set_36 : decode cX5_set 36 = .ok (.getfield 65, 3) := by decide +kernel
theorem dX5_set_39 : decode cX5_set 39 = .ok (.iload_n 1, 1) := by decide +kernel
theorem dX5_set_40 : decode cX5_set 40 = .ok (.iaload, 1) := by decide +kernel
theorem dX5_set_41 : decode cX5_set 41 = .ok (.istore_n 3, 1) := by decide +kernel
theorem dX5_set_42 : decode cX5_set 42 = .ok (.aload_n 0, 1) := by decide +kernel
theorem dX5_set_43 : decode cX5_set 43 = .ok (.getfield 46, 3) := by decide +kernel
theorem dX5_set_46 : decode cX5_set 46 = .ok (.aload_n 0, 1) := by decide +kernel
theorem dX5_set_47 : decode cX5_set 47 = .ok (.getfield 10, 3) := by decide +kernel
theorem dX5_set_50 : decode cX5_set 50 = .ok (.invokevirtual 68, 3) := by decide +kernel
theorem dX5_set_53 : decode cX5_set 53 = .ok (.aload_n 0, 1) := by decide +kernel
theorem dX5_set_54 : decode cX5_set 54 = .ok (.getfield 10, 3) := by decide +kernel
theorem dX5_set_57 : decode cX5_set 57 = .ok (.getfield 65, 3) := by decide +kernel
theorem dX5_set_60 : decode cX5_set 60 = .ok (.iload_n 1, 1) := by decide +kernel
theorem dX5_set_61 : decode cX5_set 61 = .ok (.iload_n 2, 1) := by decide +kernel
theorem dX5_set_62 : decode cX5_set 62 = .ok (.iastore, 1) := by decide +kernel
theorem dX5_set_63 : decode cX5_set 63 = .ok (.aload_n 0, 1) := by decide +kernel
theorem dX5_set_64 : decode cX5_set 64 = .ok (.getfield 19, 3) := by decide +kernel
theorem dX5_set_67 : decode cX5_set 67 = .ok (.aload_n 0, 1) := by decide +kernel
theorem dX5_set_68 : decode cX5_set 68 = .ok (.getfield 10, 3) := by decide +kernel
theorem dX5_set_71 : decode cX5_set 71 = .ok (.invokevirtual 72, 3) := by decide +kernel
theorem dX5_set_74 : decode cX5_set 74 = .ok (.iload_n 3, 1) := by decide +kernel
theorem dX5_set_75 : decode cX5_set 75 = .ok (.ireturn, 1) := by decide +kernel
theorem dX5_land_0 : decode cX5_land 0 = .ok (.iload_n 1, 1) := by decide +kernel
theorem dX5_land_1 : decode cX5_land 1 = .ok (.invokestatic 75, 3) := by decide +kernel
theorem dX5_land_4 : decode cX5_land 4 = .ok (.ifCond .ne 6, 3) := by decide +kernel
theorem dX5_land_7 : decode cX5_land 7 = .ok (.bipush (-101), 2) := by decide +kernel
theorem dX5_land_9 : decode cX5_land 9 = .ok (.ireturn, 1) := by decide +kernel
theorem dX5_land_10 : decode cX5_land 10 = .ok (.iload_n 2, 1) := by decide +kernel
theorem dX5_land_11 : decode cX5_land 11 = .ok (.iconst 0, 1) := by decide +kernel
theorem dX5_land_12 : decode cX5_land 12 = .ok (.sipush 1200, 3) := by decide +kernel
theorem dX5_land_15 : decode cX5_land 15 = .ok (.invokestatic 54, 3) := by decide +kernel
theorem dX5_land_18 : decode cX5_land 18 = .ok (.ifCond .ne 6, 3) := by decide +kernel
theorem dX5_land_21 : decode cX5_land 21 = .ok (.bipush (-102), 2) := by decide +kernel
theorem dX5_land_23 : decode cX5_land 23 = .ok (.ireturn, 1) := by decide +kernel
theorem dX5_land_24 : decode cX5_land 24 = .ok (.aload_n 0, 1) := by decide +kernel
theorem dX5_land_25 : decode cX5_land 25 = .ok (.getfield 10, 3) := by decide +kernel
theorem dX5_land_28 : decode cX5_land 28 = .ok (.getfield 79, 3) := by decide +kernel
theorem dX5_land_31 : decode cX5_land 31 = .ok (.iload_n 1, 1) := by decide +kernel
theorem dX5_land_32 : decode cX5_land 32 = .ok (.iaload, 1) := by decide +kernel
theorem dX5_land_33 : decode cX5_land 33 = .ok (.istore_n 3, 1) := by decide +kernel
theorem dX5_land_34 : decode cX5_land 34 = .ok (.aload_n 0, 1) := by decide +kernel
theorem dX5_land_35 : decode cX5_land 35 = .ok (.getfield 46, 3) := by decide +kernel
theorem dX5_land_38 : decode cX5_land 38 = .ok (.aload_n 0, 1) := by decide +kernel
theorem dX5_land_39 : decode cX5_land 39 = .ok (.getfield 10, 3) := by decide +kernel
theorem dX5_land_42 : decode cX5_land 42 = .ok (.invokevirtual 68, 3) := by decide +kernel
theorem dX5_land_45 : decode cX5_land 45 = .ok (.aload_n 0, 1) := by decide +kernel
theorem dX5_land_46 : decode cX5_land 46 = .ok (.getfield 10, 3) := by decide +kernel
theorem dX5_land_49 : decode cX5_land 49 = .ok (.getfield 79, 3) := by decide +kernel
theorem dX5_land_52 : decode cX5_land 52 = .ok (.iload_n 1, 1) := by decide +kernel
theorem dX5_land_53 : decode cX5_land 53 = .ok (.iload_n 2, 1) := by decide +kernel
theorem dX5_land_54 : decode cX5_land 54 = .ok (.iastore, 1) := by decide +kernel
theorem dX5_land_55 : decode cX5_land 55 = .ok (.aload_n 0, 1) := by decide +kernel
theorem dX5_land_56 : decode cX5_land 56 = .ok (.getfield 19, 3) := by decide +kernel
theorem dX5_land_59 : decode cX5_land 59 = .ok (.aload_n 0, 1) := by decide +kernel
theorem dX5_land_60 : decode cX5_land 60 = .ok (.getfield 10, 3) := by decide +kernel
theorem dX5_land_63 : decode cX5_land 63 = .ok (.invokevirtual 72, 3) := by decide +kernel
theorem dX5_land_66 : decode cX5_land 66 = .ok (.iload_n 3, 1) := by decide +kernel
theorem dX5_land_67 : decode cX5_land 67 = .ok (.ireturn, 1) := by decide +kernel
theorem dX5_delay_0 : decode cX5_delay 0 = .ok (.iload_n 1, 1) := by decide +kernel
theorem dX5_delay_1 : decode cX5_delay 1 = .ok (.invokestatic 75, 3) := by decide +kernel
theorem dX5_delay_4 : decode cX5_delay 4 = .ok (.ifCond .ne 6, 3) := by decide +kernel
theorem dX5_delay_7 : decode cX5_delay 7 = .ok (.bipush (-101), 2) := by decide +kernel
theorem dX5_delay_9 : decode cX5_delay 9 = .ok (.ireturn, 1) := by decide +kernel
theorem dX5_delay_10 : decode cX5_delay 10 = .ok (.iload_n 2, 1) := by decide +kernel
theorem dX5_delay_11 : decode cX5_delay 11 = .ok (.invokestatic 82, 3) := by decide +kernel
theorem dX5_delay_14 : decode cX5_delay 14 = .ok (.ifCond .ne 6, 3) := by decide +kernel
theorem dX5_delay_17 : decode cX5_delay 17 = .ok (.bipush (-102), 2) := by decide +kernel
theorem dX5_delay_19 : decode cX5_delay 19 = .ok (.ireturn, 1) := by decide +kernel
theorem dX5_delay_20 : decode cX5_delay 20 = .ok (.aload_n 0, 1) := by decide +kernel
theorem dX5_delay_21 : decode cX5_delay 21 = .ok (.getfield 46, 3) := by decide +kernel
theorem dX5_delay_24 : decode cX5_delay 24 = .ok (.aload_n 0, 1) := by decide +kernel
theorem dX5_delay_25 : decode cX5_delay 25 = .ok (.getfield 10, 3) := by decide +kernel
theorem dX5_delay_28 : decode cX5_delay 28 = .ok (.invokevirtual 68, 3) := by decide +kernel
theorem dX5_delay_31 : decode cX5_delay 31 = .ok (.aload_n 0, 1) := by decide +kernel
theorem dX5_delay_32 : decode cX5_delay 32 = .ok (.getfield 10, 3) := by decide +kernel
theorem dX5_delay_35 : decode cX5_delay 35 = .ok (.getfield 85, 3) := by decide +kernel
theorem dX5_delay_38 : decode cX5_delay 38 = .ok (.iload_n 1, 1) := by decide +kernel
theorem dX5_delay_39 : decode cX5_delay 39 = .ok (.iload_n 2, 1) := by decide +kernel
theorem dX5_delay_40 : decode cX5_delay 40 = .ok (.iastore, 1) := by decide +kernel
theorem dX5_delay_41 : decode cX5_delay 41 = .ok (.aload_n 0, 1) := by decide +kernel
theorem dX5_delay_42 : decode cX5_delay 42 = .ok (.getfield 19, 3) := by decide +kernel
theorem dX5_delay_45 : decode cX5_delay 45 = .ok (.aload_n 0, 1) := by decide +kernel
theorem dX5_delay_46 : decode cX5_delay 46 = .ok (.getfield 10, 3) := by decide +kernel
theorem dX5_delay_49 : decode cX5_delay 49 = .ok (.invokevirtual 72, 3) := by decide +kernel
theorem dX5_delay_52 : decode cX5_delay 52 = .ok (.aload_n 0, 1) := by decide +kernel
theorem dX5_delay_53 : decode cX5_delay 53 = .ok (.getfield 10, 3) := by decide +kernel
theorem dX5_delay_56 : decode cX5_delay 56 = .ok (.iload_n 1, 1) := by decide +kernel
theorem dX5_delay_57 : decode cX5_delay 57 = .ok (.invokevirtual 88, 3) := by decide +kernel
theorem dX5_delay_60 : decode cX5_delay 60 = .ok (.ireturn, 1) := by decide +kernel
theorem dX5_van_0 : decode cX5_van 0 = .ok (.iload_n 1, 1) := by decide +kernel
theorem dX5_van_1 : decode cX5_van 1 = .ok (.invokestatic 92, 3) := by decide +kernel
theorem dX5_van_4 : decode cX5_van 4 = .ok (.ifCond .ne 6, 3) := by decide +kernel
theorem dX5_van_7 : decode cX5_van 7 = .ok (.bipush (-101), 2) := by decide +kernel
theorem dX5_van_9 : decode cX5_van 9 = .ok (.ireturn, 1) := by decide +kernel
theorem dX5_van_10 : decode cX5_van 10 = .ok (.iload_n 2, 1) := by decide +kernel
theorem dX5_van_11 : decode cX5_van 11 = .ok (.iconst 0, 1) := by decide +kernel
theorem dX5_van_12 : decode cX5_van 12 = .ok (.sipush 1500, 3) := by decide +kernel
theorem dX5_van_15 : decode cX5_van 15 = .ok (.invokestatic 54, 3) := by decide +kernel
theorem dX5_van_18 : decode cX5_van 18 = .ok (.ifCond .eq 13, 3) := by decide +kernel
theorem dX5_van_21 : decode cX5_van 21 = .ok (.iload_n 3, 1) := by decide +kernel
theorem dX5_van_22 : decode cX5_van 22 = .ok (.iconst 0, 1) := by decide +kernel
theorem dX5_van_23 : decode cX5_van 23 = .ok (.bipush 12, 2) := by decide +kernel
theorem dX5_van_25 : decode cX5_van 25 = .ok (.invokestatic 54, 3) := by decide +kernel
theorem dX5_van_28 : decode cX5_van 28 = .ok (.ifCond .ne 6, 3) := by decide +kernel
theorem dX5_van_31 : decode cX5_van 31 = .ok (.bipush (-102), 2) := by decide +kernel
theorem dX5_van_33 : decode cX5_van 33 = .ok (.ireturn, 1) := by decide +kernel
theorem dX5_van_34 : decode cX5_van 34 = .ok (.aload_n 0, 1) := by decide +kernel
theorem dX5_van_35 : decode cX5_van 35 = .ok (.getfield 46, 3) := by decide +kernel
theorem dX5_van_38 : decode cX5_van 38 = .ok (.aload_n 0, 1) := by decide +kernel
theorem dX5_van_39 : decode cX5_van 39 = .ok (.getfield 10, 3) := by decide +kernel
theorem dX5_van_42 : decode cX5_van 42 = .ok (.invokevirtual 68, 3) := by decide +kernel
theorem dX5_van_45 : decode cX5_van 45 = .ok (.aload_n 0, 1) := by decide +kernel
theorem dX5_van_46 : decode cX5_van 46 = .ok (.getfield 10, 3) := by decide +kernel
theorem dX5_van_49 : decode cX5_van 49 = .ok (.getfield 95, 3) := by decide +kernel
theorem dX5_van_52 : decode cX5_van 52 = .ok (.iload_n 1, 1) := by decide +kernel
theorem dX5_van_53 : decode cX5_van 53 = .ok (.iload_n 2, 1) := by decide +kernel
theorem dX5_van_54 : decode cX5_van 54 = .ok (.iastore, 1) := by decide +kernel
theorem dX5_van_55 : decode cX5_van 55 = .ok (.aload_n 0, 1) := by decide +kernel
theorem dX5_van_56 : decode cX5_van 56 = .ok (.getfield 10, 3) := by decide +kernel
theorem dX5_van_59 : decode cX5_van 59 = .ok (.getfield 98, 3) := by decide +kernel
theorem dX5_van_62 : decode cX5_van 62 = .ok (.iload_n 1, 1) := by decide +kernel
theorem dX5_van_63 : decode cX5_van 63 = .ok (.iload_n 3, 1) := by decide +kernel
theorem dX5_van_64 : decode cX5_van 64 = .ok (.iastore, 1) := by decide +kernel
theorem dX5_van_65 : decode cX5_van 65 = .ok (.aload_n 0, 1) := by decide +kernel
theorem dX5_van_66 : decode cX5_van 66 = .ok (.getfield 19, 3) := by decide +kernel
theorem dX5_van_69 : decode cX5_van 69 = .ok (.aload_n 0, 1) := by decide +kernel
theorem dX5_van_70 : decode cX5_van 70 = .ok (.getfield 10, 3) := by decide +kernel
theorem dX5_van_73 : decode cX5_van 73 = .ok (.invokevirtual 72, 3) := by decide +kernel
theorem dX5_van_76 : decode cX5_van 76 = .ok (.aload_n 0, 1) := by decide +kernel
theorem dX5_van_77 : decode cX5_van 77 = .ok (.getfield 19, 3) := by decide +kernel
theorem dX5_van_80 : decode cX5_van 80 = .ok (.getfield 101, 3) := by decide +kernel
theorem dX5_van_83 : decode cX5_van 83 = .ok (.ireturn, 1) := by decide +kernel
theorem dX5_ride_0 : decode cX5_ride 0 = .ok (.iload_n 1, 1) := by decide +kernel
theorem dX5_ride_1 : decode cX5_ride 1 = .ok (.invokestatic 75, 3) := by decide +kernel
theorem dX5_ride_4 : decode cX5_ride 4 = .ok (.ifCond .eq 12, 3) := by decide +kernel
theorem dX5_ride_7 : decode cX5_ride 7 = .ok (.iload_n 2, 1) := by decide +kernel
theorem dX5_ride_8 : decode cX5_ride 8 = .ok (.iconst 0, 1) := by decide +kernel
theorem dX5_ride_9 : decode cX5_ride 9 = .ok (.iconst 5, 1) := by decide +kernel
theorem dX5_ride_10 : decode cX5_ride 10 = .ok (.invokestatic 54, 3) := by decide +kernel
theorem dX5_ride_13 : decode cX5_ride 13 = .ok (.ifCond .ne 6, 3) := by decide +kernel
theorem dX5_ride_16 : decode cX5_ride 16 = .ok (.bipush (-101), 2) := by decide +kernel
theorem dX5_ride_18 : decode cX5_ride 18 = .ok (.ireturn, 1) := by decide +kernel
theorem dX5_ride_19 : decode cX5_ride 19 = .ok (.iload_n 3, 1) := by decide +kernel
theorem dX5_ride_20 : decode cX5_ride 20 = .ok (.iconst 0, 1) := by decide +kernel
theorem dX5_ride_21 : decode cX5_ride 21 = .ok (.bipush 99, 2) := by decide +kernel
theorem dX5_ride_23 : decode cX5_ride 23 = .ok (.invokestatic 54, 3) := by decide +kernel
theorem dX5_ride_26 : decode cX5_ride 26 = .ok (.ifCond .eq 13, 3) := by decide +kernel
theorem dX5_ride_29 : decode cX5_ride 29 = .ok (.iload 4, 2) := by decide +kernel
theorem dX5_ride_31 : decode cX5_ride 31 = .ok (.iconst 1, 1) := by decide +kernel
theorem dX5_ride_32 : decode cX5_ride 32 = .ok (.iconst 4, 1) := by decide +kernel
theorem dX5_ride_33 : decode cX5_ride 33 = .ok (.invokestatic 54, 3) := by decide +kernel
theorem dX5_ride_36 : decode cX5_ride 36 = .ok (.ifCond .ne 6, 3) := by decide +kernel
theorem dX5_ride_39 : decode cX5_ride 39 = .ok (.bipush (-102), 2) := by decide +kernel
theorem dX5_ride_41 : decode cX5_ride 41 = .ok (.ireturn, 1) := by decide +kernel
theorem dX5_ride_42 : decode cX5_ride 42 = .ok (.aload_n 0, 1) := by decide +kernel
theorem dX5_ride_43 : decode cX5_ride 43 = .ok (.getfield 10, 3) := by decide +kernel
theorem dX5_ride_46 : decode cX5_ride 46 = .ok (.getfield 105, 3) := by decide +kernel
theorem dX5_ride_49 : decode cX5_ride 49 = .ok (.bipush 24, 2) := by decide +kernel
theorem dX5_ride_51 : decode cX5_ride 51 = .ok (.if_icmp .lt 6, 3) := by decide +kernel
theorem dX5_ride_54 : decode cX5_ride 54 = .ok (.bipush (-104), 2) := by decide +kernel
theorem dX5_ride_56 : decode cX5_ride 56 = .ok (.ireturn, 1) := by decide +kernel
theorem dX5_ride_57 : decode cX5_ride 57 = .ok (.aload_n 0, 1) := by decide +kernel
theorem dX5_ride_58 : decode cX5_ride 58 = .ok (.getfield 46, 3) := by decide +kernel
theorem dX5_ride_61 : decode cX5_ride 61 = .ok (.aload_n 0, 1) := by decide +kernel
theorem dX5_ride_62 : decode cX5_ride 62 = .ok (.getfield 10, 3) := by decide +kernel
theorem dX5_ride_65 : decode cX5_ride 65 = .ok (.invokevirtual 68, 3) := by decide +kernel
theorem dX5_ride_68 : decode cX5_ride 68 = .ok (.aload_n 0, 1) := by decide +kernel
theorem dX5_ride_69 : decode cX5_ride 69 = .ok (.getfield 10, 3) := by decide +kernel
theorem dX5_ride_72 : decode cX5_ride 72 = .ok (.iload_n 1, 1) := by decide +kernel
theorem dX5_ride_73 : decode cX5_ride 73 = .ok (.iload_n 2, 1) := by decide +kernel
theorem dX5_ride_74 : decode cX5_ride 74 = .ok (.iload_n 3, 1) := by decide +kernel
theorem dX5_ride_75 : decode cX5_ride 75 = .ok (.iload 4, 2) := by decide +kernel
theorem dX5_ride_77 : decode cX5_ride 77 = .ok (.invokevirtual 108, 3) := by decide +kernel
theorem dX5_ride_80 : decode cX5_ride 80 = .ok (.aload_n 0, 1) := by decide +kernel
theorem dX5_ride_81 : decode cX5_ride 81 = .ok (.getfield 19, 3) := by decide +kernel
theorem dX5_ride_84 : decode cX5_ride 84 = .ok (.aload_n 0, 1) := by decide +kernel
theorem dX5_ride_85 : decode cX5_ride 85 = .ok (.getfield 10, 3) := by decide +kernel
theorem dX5_ride_88 : decode cX5_ride 88 = .ok (.invokevirtual 72, 3) := by decide +kernel
theorem dX5_ride_91 : decode cX5_ride 91 = .ok (.aload_n 0, 1) := by decide +kernel
theorem dX5_ride_92 : decode cX5_ride 92 = .ok (.getfield 10, 3) := by decide +kernel
theorem dX5_ride_95 : decode cX5_ride 95 = .ok (.getfield 105, 3) := by decide +kernel
theorem dX5_ride_98 : decode cX5_ride 98 = .ok (.iconst 1, 1) := by decide +kernel
theorem dX5_ride_99 : decode cX5_ride 99 = .ok (.isub, 1) := by decide +kernel
theorem dX5_ride_100 : decode cX5_ride 100 = .ok (.ireturn, 1) := by decide +kernel
theorem dX5_cancel_0 : decode cX5_cancel 0 = .ok (.aload_n 0, 1) := by decide +kernel
theorem dX5_cancel_1 : decode cX5_cancel 1 = .ok (.iload_n 1, 1) := by decide +kernel
theorem dX5_cancel_2 : decode cX5_cancel 2 = .ok (.invokevirtual 125, 3) := by decide +kernel
theorem dX5_cancel_5 : decode cX5_cancel 5 = .ok (.ifCond .ne 6, 3) := by decide +kernel
theorem dX5_cancel_8 : decode cX5_cancel 8 = .ok (.bipush (-101), 2) := by decide +kernel
theorem dX5_cancel_10 : decode cX5_cancel 10 = .ok (.ireturn, 1) := by decide +kernel
theorem dX5_cancel_11 : decode cX5_cancel 11 = .ok (.aload_n 0, 1) := by decide +kernel
theorem dX5_cancel_12 : decode cX5_cancel 12 = .ok (.getfield 19, 3) := by decide +kernel
theorem dX5_cancel_15 : decode cX5_cancel 15 = .ok (.aload_n 0, 1) := by decide +kernel
theorem dX5_cancel_16 : decode cX5_cancel 16 = .ok (.getfield 10, 3) := by decide +kernel
theorem dX5_cancel_19 : decode cX5_cancel 19 = .ok (.iload_n 1, 1) := by decide +kernel
theorem dX5_cancel_20 : decode cX5_cancel 20 = .ok (.invokevirtual 128, 3) := by decide +kernel
theorem dX5_cancel_23 : decode cX5_cancel 23 = .ok (.istore_n 2, 1) := by decide +kernel
theorem dX5_cancel_24 : decode cX5_cancel 24 = .ok (.aload_n 0, 1) := by decide +kernel
theorem dX5_cancel_25 : decode cX5_cancel 25 = .ok (.getfield 46, 3) := by decide +kernel
theorem dX5_cancel_28 : decode cX5_cancel 28 = .ok (.aload_n 0, 1) := by decide +kernel
theorem dX5_cancel_29 : decode cX5_cancel 29 = .ok (.getfield 10, 3) := by decide +kernel
theorem dX5_cancel_32 : decode cX5_cancel 32 = .ok (.invokevirtual 68, 3) := by decide +kernel
theorem dX5_cancel_35 : decode cX5_cancel 35 = .ok (.aload_n 0, 1) := by decide +kernel
theorem dX5_cancel_36 : decode cX5_cancel 36 = .ok (.getfield 10, 3) := by decide +kernel
theorem dX5_cancel_39 : decode cX5_cancel 39 = .ok (.iload_n 1, 1) := by decide +kernel
theorem dX5_cancel_40 : decode cX5_cancel 40 = .ok (.invokevirtual 132, 3) := by decide +kernel
theorem dX5_cancel_43 : decode cX5_cancel 43 = .ok (.aload_n 0, 1) := by decide +kernel
theorem dX5_cancel_44 : decode cX5_cancel 44 = .ok (.getfield 19, 3) := by decide +kernel
theorem dX5_cancel_47 : decode cX5_cancel 47 = .ok (.aload_n 0, 1) := by decide +kernel
theorem dX5_cancel_48 : decode cX5_cancel 48 = .ok (.getfield 10, 3) := by decide +kernel
theorem dX5_cancel_51 : decode cX5_cancel 51 = .ok (.invokevirtual 72, 3) := by decide +kernel
theorem dX5_cancel_54 : decode cX5_cancel 54 = .ok (.iload_n 2, 1) := by decide +kernel
theorem dX5_cancel_55 : decode cX5_cancel 55 = .ok (.ireturn, 1) := by decide +kernel
theorem dX5_rebook_0 : decode cX5_rebook 0 = .ok (.aload_n 0, 1) := by decide +kernel
theorem dX5_rebook_1 : decode cX5_rebook 1 = .ok (.iload_n 1, 1) := by decide +kernel
theorem dX5_rebook_2 : decode cX5_rebook 2 = .ok (.invokevirtual 125, 3) := by decide +kernel
theorem dX5_rebook_5 : decode cX5_rebook 5 = .ok (.ifCond .eq 10, 3) := by decide +kernel
theorem dX5_rebook_8 : decode cX5_rebook 8 = .ok (.iload_n 2, 1) := by decide +kernel
theorem dX5_rebook_9 : decode cX5_rebook 9 = .ok (.invokestatic 75, 3) := by decide +kernel
theorem dX5_rebook_12 : decode cX5_rebook 12 = .ok (.ifCond .ne 6, 3) := by decide +kernel
theorem dX5_rebook_15 : decode cX5_rebook 15 = .ok (.bipush (-101), 2) := by decide +kernel
theorem dX5_rebook_17 : decode cX5_rebook 17 = .ok (.ireturn, 1) := by decide +kernel
theorem dX5_rebook_18 : decode cX5_rebook 18 = .ok (.aload_n 0, 1) := by decide +kernel
theorem dX5_rebook_19 : decode cX5_rebook 19 = .ok (.getfield 10, 3) := by decide +kernel
theorem dX5_rebook_22 : decode cX5_rebook 22 = .ok (.getfield 136, 3) := by decide +kernel
theorem dX5_rebook_25 : decode cX5_rebook 25 = .ok (.iload_n 1, 1) := by decide +kernel
theorem dX5_rebook_26 : decode cX5_rebook 26 = .ok (.iaload, 1) := by decide +kernel
theorem dX5_rebook_27 : decode cX5_rebook 27 = .ok (.iload_n 2, 1) := by decide +kernel
theorem dX5_rebook_28 : decode cX5_rebook 28 = .ok (.if_icmp .ne 6, 3) := by decide +kernel
theorem dX5_rebook_31 : decode cX5_rebook 31 = .ok (.bipush (-105), 2) := by decide +kernel
theorem dX5_rebook_33 : decode cX5_rebook 33 = .ok (.ireturn, 1) := by decide +kernel
theorem dX5_rebook_34 : decode cX5_rebook 34 = .ok (.aload_n 0, 1) := by decide +kernel
theorem dX5_rebook_35 : decode cX5_rebook 35 = .ok (.getfield 46, 3) := by decide +kernel
theorem dX5_rebook_38 : decode cX5_rebook 38 = .ok (.aload_n 0, 1) := by decide +kernel
theorem dX5_rebook_39 : decode cX5_rebook 39 = .ok (.getfield 10, 3) := by decide +kernel
theorem dX5_rebook_42 : decode cX5_rebook 42 = .ok (.invokevirtual 68, 3) := by decide +kernel
theorem dX5_rebook_45 : decode cX5_rebook 45 = .ok (.aload_n 0, 1) := by decide +kernel
theorem dX5_rebook_46 : decode cX5_rebook 46 = .ok (.getfield 10, 3) := by decide +kernel
theorem dX5_rebook_49 : decode cX5_rebook 49 = .ok (.getfield 136, 3) := by decide +kernel
theorem dX5_rebook_52 : decode cX5_rebook 52 = .ok (.iload_n 1, 1) := by decide +kernel
theorem dX5_rebook_53 : decode cX5_rebook 53 = .ok (.iload_n 2, 1) := by decide +kernel
theorem dX5_rebook_54 : decode cX5_rebook 54 = .ok (.iastore, 1) := by decide +kernel
theorem dX5_rebook_55 : decode cX5_rebook 55 = .ok (.aload_n 0, 1) := by decide +kernel
theorem dX5_rebook_56 : decode cX5_rebook 56 = .ok (.getfield 19, 3) := by decide +kernel
theorem dX5_rebook_59 : decode cX5_rebook 59 = .ok (.aload_n 0, 1) := by decide +kernel
theorem dX5_rebook_60 : decode cX5_rebook 60 = .ok (.getfield 10, 3) := by decide +kernel
theorem dX5_rebook_63 : decode cX5_rebook 63 = .ok (.invokevirtual 72, 3) := by decide +kernel
theorem dX5_rebook_66 : decode cX5_rebook 66 = .ok (.aload_n 0, 1) := by decide +kernel
theorem dX5_rebook_67 : decode cX5_rebook 67 = .ok (.getfield 19, 3) := by decide +kernel
theorem dX5_rebook_70 : decode cX5_rebook 70 = .ok (.getfield 139, 3) := by decide +kernel
theorem dX5_rebook_73 : decode cX5_rebook 73 = .ok (.iload_n 1, 1) := by decide +kernel
theorem dX5_rebook_74 : decode cX5_rebook 74 = .ok (.iaload, 1) := by decide +kernel
theorem dX5_rebook_75 : decode cX5_rebook 75 = .ok (.ireturn, 1) := by decide +kernel
theorem dX5_rider_0 : decode cX5_rider 0 = .ok (.aload_n 0, 1) := by decide +kernel
theorem dX5_rider_1 : decode cX5_rider 1 = .ok (.iload_n 1, 1) := by decide +kernel
theorem dX5_rider_2 : decode cX5_rider 2 = .ok (.invokevirtual 125, 3) := by decide +kernel
theorem dX5_rider_5 : decode cX5_rider 5 = .ok (.ifCond .ne 6, 3) := by decide +kernel
theorem dX5_rider_8 : decode cX5_rider 8 = .ok (.bipush (-101), 2) := by decide +kernel
theorem dX5_rider_10 : decode cX5_rider 10 = .ok (.ireturn, 1) := by decide +kernel
theorem dX5_rider_11 : decode cX5_rider 11 = .ok (.iload_n 2, 1) := by decide +kernel
theorem dX5_rider_12 : decode cX5_rider 12 = .ok (.tableswitch 160 0 9 #[56, 66, 76, 86, 96, 105, 115, 128, 134, 147], 56) := by decide +kernel
theorem dX5_rider_68 : decode cX5_rider 68 = .ok (.aload_n 0, 1) := by decide +kernel
theorem dX5_rider_69 : decode cX5_rider 69 = .ok (.getfield 10, 3) := by decide +kernel
theorem dX5_rider_72 : decode cX5_rider 72 = .ok (.getfield 136, 3) := by decide +kernel
theorem dX5_rider_75 : decode cX5_rider 75 = .ok (.iload_n 1, 1) := by decide +kernel
theorem dX5_rider_76 : decode cX5_rider 76 = .ok (.iaload, 1) := by decide +kernel
theorem dX5_rider_77 : decode cX5_rider 77 = .ok (.ireturn, 1) := by decide +kernel
theorem dX5_rider_78 : decode cX5_rider 78 = .ok (.aload_n 0, 1) := by decide +kernel
theorem dX5_rider_79 : decode cX5_rider 79 = .ok (.getfield 10, 3) := by decide +kernel
theorem dX5_rider_82 : decode cX5_rider 82 = .ok (.getfield 142, 3) := by decide +kernel
theorem dX5_rider_85 : decode cX5_rider 85 = .ok (.iload_n 1, 1) := by decide +kernel
theorem dX5_rider_86 : decode cX5_rider 86 = .ok (.iaload, 1) := by decide +kernel
theorem dX5_rider_87 : decode cX5_rider 87 = .ok (.ireturn, 1) := by decide +kernel
theorem dX5_rider_88 : decode cX5_rider 88 = .ok (.aload_n 0, 1) := by decide +kernel
theorem dX5_rider_89 : decode cX5_rider 89 = .ok (.getfield 10, 3) := by decide +kernel
theorem dX5_rider_92 : decode cX5_rider 92 = .ok (.getfield 145, 3) := by decide +kernel
theorem dX5_rider_95 : decode cX5_rider 95 = .ok (.iload_n 1, 1) := by decide +kernel
theorem dX5_rider_96 : decode cX5_rider 96 = .ok (.iaload, 1) := by decide +kernel
theorem dX5_rider_97 : decode cX5_rider 97 = .ok (.ireturn, 1) := by decide +kernel
theorem dX5_rider_98 : decode cX5_rider 98 = .ok (.aload_n 0, 1) := by decide +kernel
theorem dX5_rider_99 : decode cX5_rider 99 = .ok (.getfield 10, 3) := by decide +kernel
theorem dX5_rider_102 : decode cX5_rider 102 = .ok (.getfield 148, 3) := by decide +kernel
theorem dX5_rider_105 : decode cX5_rider 105 = .ok (.iload_n 1, 1) := by decide +kernel
theorem dX5_rider_106 : decode cX5_rider 106 = .ok (.iaload, 1) := by decide +kernel
theorem dX5_rider_107 : decode cX5_rider 107 = .ok (.ireturn, 1) := by decide +kernel
theorem dX5_rider_108 : decode cX5_rider 108 = .ok (.aload_n 0, 1) := by decide +kernel
theorem dX5_rider_109 : decode cX5_rider 109 = .ok (.getfield 10, 3) := by decide +kernel
theorem dX5_rider_112 : decode cX5_rider 112 = .ok (.iload_n 1, 1) := by decide +kernel
theorem dX5_rider_113 : decode cX5_rider 113 = .ok (.invokevirtual 151, 3) := by decide +kernel
theorem dX5_rider_116 : decode cX5_rider 116 = .ok (.ireturn, 1) := by decide +kernel
theorem dX5_rider_117 : decode cX5_rider 117 = .ok (.aload_n 0, 1) := by decide +kernel
theorem dX5_rider_118 : decode cX5_rider 118 = .ok (.getfield 19, 3) := by decide +kernel
