theorem dX0_init_0 : decode cX0_init 0 = .ok (.aload_n 0, 1) := by decide +kernel
theorem dX0_init_1 : decode cX0_init 1 = .ok (.invokespecial 3, 3) := by decide +kernel
theorem dX0_init_4 : decode cX0_init 4 = .ok (.aload_n 0, 1) := by decide +kernel
theorem dX0_init_5 : decode cX0_init 5 = .ok (.bipush 6, 2) := by decide +kernel
theorem dX0_init_7 : decode cX0_init 7 = .ok (.anewarray 9, 3) := by decide +kernel
theorem dX0_init_10 : decode cX0_init 10 = .ok (.putfield 11, 3) := by decide +kernel
theorem dX0_init_13 : decode cX0_init 13 = .ok (.iconst 0, 1) := by decide +kernel
theorem dX0_init_14 : decode cX0_init 14 = .ok (.istore_n 1, 1) := by decide +kernel
theorem dX0_init_15 : decode cX0_init 15 = .ok (.iload_n 1, 1) := by decide +kernel
theorem dX0_init_16 : decode cX0_init 16 = .ok (.bipush 6, 2) := by decide +kernel
theorem dX0_init_18 : decode cX0_init 18 = .ok (.if_icmp .ge 22, 3) := by decide +kernel
theorem dX0_init_21 : decode cX0_init 21 = .ok (.aload_n 0, 1) := by decide +kernel
theorem dX0_init_22 : decode cX0_init 22 = .ok (.getfield 11, 3) := by decide +kernel
theorem dX0_init_25 : decode cX0_init 25 = .ok (.iload_n 1, 1) := by decide +kernel
theorem dX0_init_26 : decode cX0_init 26 = .ok (.new 9, 3) := by decide +kernel
theorem dX0_init_29 : decode cX0_init 29 = .ok (.dup, 1) := by decide +kernel
theorem dX0_init_30 : decode cX0_init 30 = .ok (.invokespecial 17, 3) := by decide +kernel
theorem dX0_init_33 : decode cX0_init 33 = .ok (.aastore, 1) := by decide +kernel
theorem dX0_init_34 : decode cX0_init 34 = .ok (.iinc 1 1, 3) := by decide +kernel
theorem dX0_init_37 : decode cX0_init 37 = .ok (.goto (-22), 3) := by decide +kernel
theorem dX0_init_40 : decode cX0_init 40 = .ok (.return_, 1) := by decide +kernel
theorem dX0_record_0 : decode cX0_record 0 = .ok (.aload_n 0, 1) := by decide +kernel
theorem dX0_record_1 : decode cX0_record 1 = .ok (.getfield 18, 3) := by decide +kernel
theorem dX0_record_4 : decode cX0_record 4 = .ok (.bipush 6, 2) := by decide +kernel
theorem dX0_record_6 : decode cX0_record 6 = .ok (.if_icmp .lt 26, 3) := by decide +kernel
theorem dX0_record_9 : decode cX0_record 9 = .ok (.aload_n 0, 1) := by decide +kernel
theorem dX0_record_10 : decode cX0_record 10 = .ok (.aload_n 0, 1) := by decide +kernel
theorem dX0_record_11 : decode cX0_record 11 = .ok (.getfield 22, 3) := by decide +kernel
theorem dX0_record_14 : decode cX0_record 14 = .ok (.iconst 1, 1) := by decide +kernel
theorem dX0_record_15 : decode cX0_record 15 = .ok (.iadd, 1) := by decide +kernel
theorem dX0_record_16 : decode cX0_record 16 = .ok (.bipush 6, 2) := by decide +kernel
theorem dX0_record_18 : decode cX0_record 18 = .ok (.irem, 1) := by decide +kernel
theorem dX0_record_19 : decode cX0_record 19 = .ok (.putfield 22, 3) := by decide +kernel
theorem dX0_record_22 : decode cX0_record 22 = .ok (.aload_n 0, 1) := by decide +kernel
theorem dX0_record_23 : decode cX0_record 23 = .ok (.dup, 1) := by decide +kernel
theorem dX0_record_24 : decode cX0_record 24 = .ok (.getfield 18, 3) := by decide +kernel
theorem dX0_record_27 : decode cX0_record 27 = .ok (.iconst 1, 1) := by decide +kernel
theorem dX0_record_28 : decode cX0_record 28 = .ok (.isub, 1) := by decide +kernel
theorem dX0_record_29 : decode cX0_record 29 = .ok (.putfield 18, 3) := by decide +kernel
theorem dX0_record_32 : decode cX0_record 32 = .ok (.aload_n 0, 1) := by decide +kernel
theorem dX0_record_33 : decode cX0_record 33 = .ok (.getfield 11, 3) := by decide +kernel
theorem dX0_record_36 : decode cX0_record 36 = .ok (.aload_n 0, 1) := by decide +kernel
theorem dX0_record_37 : decode cX0_record 37 = .ok (.getfield 22, 3) := by decide +kernel
theorem dX0_record_40 : decode cX0_record 40 = .ok (.aload_n 0, 1) := by decide +kernel
theorem dX0_record_41 : decode cX0_record 41 = .ok (.getfield 18, 3) := by decide +kernel
theorem dX0_record_44 : decode cX0_record 44 = .ok (.iadd, 1) := by decide +kernel
theorem dX0_record_45 : decode cX0_record 45 = .ok (.bipush 6, 2) := by decide +kernel
theorem dX0_record_47 : decode cX0_record 47 = .ok (.irem, 1) := by decide +kernel
theorem dX0_record_48 : decode cX0_record 48 = .ok (.aaload, 1) := by decide +kernel
theorem dX0_record_49 : decode cX0_record 49 = .ok (.aload_n 1, 1) := by decide +kernel
theorem dX0_record_50 : decode cX0_record 50 = .ok (.invokevirtual 25, 3) := by decide +kernel
theorem dX0_record_53 : decode cX0_record 53 = .ok (.aload_n 0, 1) := by decide +kernel
theorem dX0_record_54 : decode cX0_record 54 = .ok (.dup, 1) := by decide +kernel
theorem dX0_record_55 : decode cX0_record 55 = .ok (.getfield 18, 3) := by decide +kernel
theorem dX0_record_58 : decode cX0_record 58 = .ok (.iconst 1, 1) := by decide +kernel
theorem dX0_record_59 : decode cX0_record 59 = .ok (.iadd, 1) := by decide +kernel
theorem dX0_record_60 : decode cX0_record 60 = .ok (.putfield 18, 3) := by decide +kernel
theorem dX0_record_63 : decode cX0_record 63 = .ok (.return_, 1) := by decide +kernel
theorem dX0_takeBack_0 : decode cX0_takeBack 0 = .ok (.aload_n 0, 1) := by decide +kernel
theorem dX0_takeBack_1 : decode cX0_takeBack 1 = .ok (.getfield 18, 3) := by decide +kernel
theorem dX0_takeBack_4 : decode cX0_takeBack 4 = .ok (.ifCond .gt 4, 3) := by decide +kernel
theorem dX0_takeBack_7 : decode cX0_takeBack 7 = .ok (.return_, 1) := by decide +kernel
theorem dX0_takeBack_8 : decode cX0_takeBack 8 = .ok (.aload_n 0, 1) := by decide +kernel
theorem dX0_takeBack_9 : decode cX0_takeBack 9 = .ok (.dup, 1) := by decide +kernel
theorem dX0_takeBack_10 : decode cX0_takeBack 10 = .ok (.getfield 18, 3) := by decide +kernel
theorem dX0_takeBack_13 : decode cX0_takeBack 13 = .ok (.iconst 1, 1) := by decide +kernel
theorem dX0_takeBack_14 : decode cX0_takeBack 14 = .ok (.isub, 1) := by decide +kernel
theorem dX0_takeBack_15 : decode cX0_takeBack 15 = .ok (.putfield 18, 3) := by decide +kernel
theorem dX0_takeBack_18 : decode cX0_takeBack 18 = .ok (.aload_n 1, 1) := by decide +kernel
theorem dX0_takeBack_19 : decode cX0_takeBack 19 = .ok (.aload_n 0, 1) := by decide +kernel
theorem dX0_takeBack_20 : decode cX0_takeBack 20 = .ok (.getfield 11, 3) := by decide +kernel
theorem dX0_takeBack_23 : decode cX0_takeBack 23 = .ok (.aload_n 0, 1) := by decide +kernel
theorem dX0_takeBack_24 : decode cX0_takeBack 24 = .ok (.getfield 22, 3) := by decide +kernel
theorem dX0_takeBack_27 : decode cX0_takeBack 27 = .ok (.aload_n 0, 1) := by decide +kernel
theorem dX0_takeBack_28 : decode cX0_takeBack 28 = .ok (.getfield 18, 3) := by decide +kernel
theorem dX0_takeBack_31 : decode cX0_takeBack 31 = .ok (.iadd, 1) := by decide +kernel
theorem dX0_takeBack_32 : decode cX0_takeBack 32 = .ok (.bipush 6, 2) := by decide +kernel
theorem dX0_takeBack_34 : decode cX0_takeBack 34 = .ok (.irem, 1) := by decide +kernel
theorem dX0_takeBack_35 : decode cX0_takeBack 35 = .ok (.aaload, 1) := by decide +kernel
theorem dX0_takeBack_36 : decode cX0_takeBack 36 = .ok (.invokevirtual 25, 3) := by decide +kernel
theorem dX0_takeBack_39 : decode cX0_takeBack 39 = .ok (.return_, 1) := by decide +kernel
theorem dX1_init_0 : decode cX1_init 0 = .ok (.aload_n 0, 1) := by decide +kernel
theorem dX1_init_1 : decode cX1_init 1 = .ok (.invokespecial 3, 3) := by decide +kernel
theorem dX1_init_4 : decode cX1_init 4 = .ok (.aload_n 0, 1) := by decide +kernel
theorem dX1_init_5 : decode cX1_init 5 = .ok (.bipush 60, 2) := by decide +kernel
theorem dX1_init_7 : decode cX1_init 7 = .ok (.newarray .int, 2) := by decide +kernel
theorem dX1_init_9 : decode cX1_init 9 = .ok (.putfield 9, 3) := by decide +kernel
theorem dX1_init_12 : decode cX1_init 12 = .ok (.return_, 1) := by decide +kernel
theorem dX1_charactersIn_0 : decode cX1_charactersIn 0 = .ok (.iconst 0, 1) := by decide +kernel
theorem dX1_charactersIn_1 : decode cX1_charactersIn 1 = .ok (.istore_n 2, 1) := by decide +kernel
theorem dX1_charactersIn_2 : decode cX1_charactersIn 2 = .ok (.lload_n 0, 1) := by decide +kernel
theorem dX1_charactersIn_3 : decode cX1_charactersIn 3 = .ok (.lstore_n 3, 1) := by decide +kernel
theorem dX1_charactersIn_4 : decode cX1_charactersIn 4 = .ok (.lload_n 3, 1) := by decide +kernel
theorem dX1_charactersIn_5 : decode cX1_charactersIn 5 = .ok (.lconst 0, 1) := by decide +kernel
theorem dX1_charactersIn_6 : decode cX1_charactersIn 6 = .ok (.lcmp, 1) := by decide +kernel
theorem dX1_charactersIn_7 : decode cX1_charactersIn 7 = .ok (.ifCond .eq 38, 3) := by decide +kernel
theorem dX1_charactersIn_10 : decode cX1_charactersIn 10 = .ok (.iload_n 2, 1) := by decide +kernel
theorem dX1_charactersIn_11 : decode cX1_charactersIn 11 = .ok (.bipush 8, 2) := by decide +kernel
theorem dX1_charactersIn_13 : decode cX1_charactersIn 13 = .ok (.if_icmp .ge 32, 3) := by decide +kernel
theorem dX1_charactersIn_16 : decode cX1_charactersIn 16 = .ok (.lload_n 3, 1) := by decide +kernel
theorem dX1_charactersIn_17 : decode cX1_charactersIn 17 = .ok (.ldc2_w 15, 3) := by decide +kernel
theorem dX1_charactersIn_20 : decode cX1_charactersIn 20 = .ok (.land, 1) := by decide +kernel
theorem dX1_charactersIn_21 : decode cX1_charactersIn 21 = .ok (.l2i, 1) := by decide +kernel
theorem dX1_charactersIn_22 : decode cX1_charactersIn 22 = .ok (.bipush 33, 2) := by decide +kernel
theorem dX1_charactersIn_24 : decode cX1_charactersIn 24 = .ok (.bipush 126, 2) := by decide +kernel
theorem dX1_charactersIn_26 : decode cX1_charactersIn 26 = .ok (.invokestatic 17, 3) := by decide +kernel
theorem dX1_charactersIn_29 : decode cX1_charactersIn 29 = .ok (.ifCond .ne 5, 3) := by decide +kernel
theorem dX1_charactersIn_32 : decode cX1_charactersIn 32 = .ok (.iconst 0, 1) := by decide +kernel
theorem dX1_charactersIn_33 : decode cX1_charactersIn 33 = .ok (.ireturn, 1) := by decide +kernel
theorem dX1_charactersIn_34 : decode cX1_charactersIn 34 = .ok (.lload_n 3, 1) := by decide +kernel
theorem dX1_charactersIn_35 : decode cX1_charactersIn 35 = .ok (.bipush 8, 2) := by decide +kernel
theorem dX1_charactersIn_37 : decode cX1_charactersIn 37 = .ok (.lushr, 1) := by decide +kernel
theorem dX1_charactersIn_38 : decode cX1_charactersIn 38 = .ok (.lstore_n 3, 1) := by decide +kernel
theorem dX1_charactersIn_39 : decode cX1_charactersIn 39 = .ok (.iinc 2 1, 3) := by decide +kernel
theorem dX1_charactersIn_42 : decode cX1_charactersIn 42 = .ok (.goto (-38), 3) := by decide +kernel
theorem dX1_charactersIn_45 : decode cX1_charactersIn 45 = .ok (.iload_n 2, 1) := by decide +kernel
theorem dX1_charactersIn_46 : decode cX1_charactersIn 46 = .ok (.ireturn, 1) := by decide +kernel
theorem dX1_append_0 : decode cX1_append 0 = .ok (.iload_n 3, 1) := by decide +kernel
theorem dX1_append_1 : decode cX1_append 1 = .ok (.ifCond .lt 14, 3) := by decide +kernel
theorem dX1_append_4 : decode cX1_append 4 = .ok (.aload_n 0, 1) := by decide +kernel
theorem dX1_append_5 : decode cX1_append 5 = .ok (.getfield 21, 3) := by decide +kernel
theorem dX1_append_8 : decode cX1_append 8 = .ok (.iload_n 3, 1) := by decide +kernel
theorem dX1_append_9 : decode cX1_append 9 = .ok (.iadd, 1) := by decide +kernel
theorem dX1_append_10 : decode cX1_append 10 = .ok (.bipush 60, 2) := by decide +kernel
theorem dX1_append_12 : decode cX1_append 12 = .ok (.if_icmp .le 4, 3) := by decide +kernel
theorem dX1_append_15 : decode cX1_append 15 = .ok (.return_, 1) := by decide +kernel
theorem dX1_append_16 : decode cX1_append 16 = .ok (.lload_n 1, 1) := by decide +kernel
theorem dX1_append_17 : decode cX1_append 17 = .ok (.lstore 4, 2) := by decide +kernel
theorem dX1_append_19 : decode cX1_append 19 = .ok (.aload_n 0, 1) := by decide +kernel
theorem dX1_append_20 : decode cX1_append 20 = .ok (.getfield 21, 3) := by decide +kernel
theorem dX1_append_23 : decode cX1_append 23 = .ok (.iload_n 3, 1) := by decide +kernel
theorem dX1_append_24 : decode cX1_append 24 = .ok (.iadd, 1) := by decide +kernel
theorem dX1_append_25 : decode cX1_append 25 = .ok (.iconst 1, 1) := by decide +kernel
theorem dX1_append_26 : decode cX1_append 26 = .ok (.isub, 1) := by decide +kernel
theorem dX1_append_27 : decode cX1_append 27 = .ok (.istore 6, 2) := by decide +kernel
theorem dX1_append_29 : decode cX1_append 29 = .ok (.iload 6, 2) := by decide +kernel
theorem dX1_append_31 : decode cX1_append 31 = .ok (.aload_n 0, 1) := by decide +kernel
theorem dX1_append_32 : decode cX1_append 32 = .ok (.getfield 21, 3) := by decide +kernel
theorem dX1_append_35 : decode cX1_append 35 = .ok (.if_icmp .lt 30, 3) := by decide +kernel
theorem dX1_append_38 : decode cX1_append 38 = .ok (.aload_n 0, 1) := by decide +kernel
theorem dX1_append_39 : decode cX1_append 39 = .ok (.getfield 9, 3) := by decide +kernel
theorem dX1_append_42 : decode cX1_append 42 = .ok (.iload 6, 2) := by decide +kernel
theorem dX1_append_44 : decode cX1_append 44 = .ok (.lload 4, 2) := by decide +kernel
theorem dX1_append_46 : decode cX1_append 46 = .ok (.ldc2_w 15, 3) := by decide +kernel
theorem dX1_append_49 : decode cX1_append 49 = .ok (.land, 1) := by decide +kernel
theorem dX1_append_50 : decode cX1_append 50 = .ok (.l2i, 1) := by decide +kernel
theorem dX1_append_51 : decode cX1_append 51 = .ok (.iastore, 1) := by decide +kernel
theorem dX1_append_52 : decode cX1_append 52 = .ok (.lload 4, 2) := by decide +kernel
theorem dX1_append_54 : decode cX1_append 54 = .ok (.bipush 8, 2) := by decide +kernel
theorem dX1_append_56 : decode cX1_append 56 = .ok (.lushr, 1) := by decide +kernel
theorem dX1_append_57 : decode cX1_append 57 = .ok (.lstore 4, 2) := by decide +kernel
theorem dX1_append_59 : decode cX1_append 59 = .ok (.iinc 6 (-1), 3) := by decide +kernel
theorem dX1_append_62 : decode cX1_append 62 = .ok (.goto (-33), 3) := by decide +kernel
theorem dX1_append_65 : decode cX1_append 65 = .ok (.aload_n 0, 1) := by decide +kernel
theorem dX1_append_66 : decode cX1_append 66 = .ok (.dup, 1) := by decide +kernel
theorem dX1_append_67 : decode cX1_append 67 = .ok (.getfield 21, 3) := by decide +kernel
theorem dX1_append_70 : decode cX1_append 70 = .ok (.iload_n 3, 1) := by decide +kernel
theorem dX1_append_71 : decode cX1_append 71 = .ok (.iadd, 1) := by decide +kernel
theorem dX1_append_72 : decode cX1_append 72 = .ok (.putfield 21, 3) := by decide +kernel
theorem dX1_append_75 : decode cX1_append 75 = .ok (.return_, 1) := by decide +kernel
theorem dX1_firstFault_0 : decode cX1_firstFault 0 = .ok (.iconst 0, 1) := by decide +kernel
theorem dX1_firstFault_1 : decode cX1_firstFault 1 = .ok (.istore_n 1, 1) := by decide +kernel
theorem dX1_firstFault_2 : decode cX1_firstFault 2 = .ok (.iconst 0, 1) := by decide +kernel
theorem dX1_firstFault_3 : decode cX1_firstFault 3 = .ok (.istore_n 2, 1) := by decide +kernel
theorem dX1_firstFault_4 : decode cX1_firstFault 4 = .ok (.iload_n 2, 1) := by decide +kernel
theorem dX1_firstFault_5 : decode cX1_firstFault 5 = .ok (.aload_n 0, 1) := by decide +kernel
theorem dX1_firstFault_6 : decode cX1_firstFault 6 = .ok (.getfield 21, 3) := by decide +kernel
theorem dX1_firstFault_9 : decode cX1_firstFault 9 = .ok (.if_icmp .ge 28, 3) := by decide +kernel
theorem dX1_firstFault_12 : decode cX1_firstFault 12 = .ok (.iload_n 1, 1) := by decide +kernel
theorem dX1_firstFault_13 : decode cX1_firstFault 13 = .ok (.aload_n 0, 1) := by decide +kernel
theorem dX1_firstFault_14 : decode cX1_firstFault 14 = .ok (.getfield 9, 3) := by decide +kernel
theorem dX1_firstFault_17 : decode cX1_firstFault 17 = .ok (.iload_n 2, 1) := by decide +kernel
theorem dX1_firstFault_18 : decode cX1_firstFault 18 = .ok (.iaload, 1) := by decide +kernel
theorem dX1_firstFault_19 : decode cX1_firstFault 19 = .ok (.invokestatic 25, 3) := by decide +kernel
theorem dX1_firstFault_22 : decode cX1_firstFault 22 = .ok (.istore_n 1, 1) := by decide +kernel
theorem dX1_firstFault_23 : decode cX1_firstFault 23 = .ok (.iload_n 1, 1) := by decide +kernel
theorem dX1_firstFault_24 : decode cX1_firstFault 24 = .ok (.bipush 7, 2) := by decide +kernel
theorem dX1_firstFault_26 : decode cX1_firstFault 26 = .ok (.if_icmp .ne 5, 3) := by decide +kernel
theorem dX1_firstFault_29 : decode cX1_firstFault 29 = .ok (.iload_n 2, 1) := by decide +kernel
theorem dX1_firstFault_30 : decode cX1_firstFault 30 = .ok (.ireturn, 1) := by decide +kernel
theorem dX1_firstFault_31 : decode cX1_firstFault 31 = .ok (.iinc 2 1, 3) := by decide +kernel
theorem dX1_firstFault_34 : decode cX1_firstFault 34 = .ok (.goto (-30), 3) := by decide +kernel
theorem dX1_firstFault_37 : decode cX1_firstFault 37 = .ok (.iload_n 1, 1) := by decide +kernel
theorem dX1_firstFault_38 : decode cX1_firstFault 38 = .ok (.invokestatic 29, 3) := by decide +kernel
theorem dX1_firstFault_41 : decode cX1_firstFault 41 = .ok (.ifCond .eq 8, 3) := by decide +kernel
theorem dX1_firstFault_44 : decode cX1_firstFault 44 = .ok (.bipush (-106), 2) := by decide +kernel
theorem dX1_firstFault_46 : decode cX1_firstFault 46 = .ok (.goto 7, 3) := by decide +kernel
theorem dX1_firstFault_49 : decode cX1_firstFault 49 = .ok (.aload_n 0, 1) := by decide +kernel
theorem dX1_firstFault_50 : decode cX1_firstFault 50 = .ok (.getfield 21, 3) := by decide +kernel
theorem dX1_firstFault_53 : decode cX1_firstFault 53 = .ok (.ireturn, 1) := by decide +kernel
theorem dX1_mayEnd_0 : decode cX1_mayEnd 0 = .ok (.iload_n 0, 1) := by decide +kernel
theorem dX1_mayEnd_1 : decode cX1_mayEnd 1 = .ok (.iconst 3, 1) := by decide +kernel
theorem dX1_mayEnd_2 : decode cX1_mayEnd 2 = .ok (.if_icmp .eq 14, 3) := by decide +kernel
theorem dX1_mayEnd_5 : decode cX1_mayEnd 5 = .ok (.iload_n 0, 1) := by decide +kernel
theorem dX1_mayEnd_6 : decode cX1_mayEnd 6 = .ok (.iconst 4, 1) := by decide +kernel
theorem dX1_mayEnd_7 : decode cX1_mayEnd 7 = .ok (.if_icmp .eq 9, 3) := by decide +kernel
theorem dX1_mayEnd_10 : decode cX1_mayEnd 10 = .ok (.iload_n 0, 1) := by decide +kernel
theorem dX1_mayEnd_11 : decode cX1_mayEnd 11 = .ok (.bipush 6, 2) := by decide +kernel
theorem dX1_mayEnd_13 : decode cX1_mayEnd 13 = .ok (.if_icmp .ne 7, 3) := by decide +kernel
theorem dX1_mayEnd_16 : decode cX1_mayEnd 16 = .ok (.iconst 1, 1) := by decide +kernel
theorem dX1_mayEnd_17 : decode cX1_mayEnd 17 = .ok (.goto 4, 3) := by decide +kernel
theorem dX1_mayEnd_20 : decode cX1_mayEnd 20 = .ok (.iconst 0, 1) := by decide +kernel
theorem dX1_mayEnd_21 : decode cX1_mayEnd 21 = .ok (.ireturn, 1) := by decide +kernel
theorem dX1_after_0 : decode cX1_after 0 = .ok (.iload_n 0, 1) := by decide +kernel
theorem dX1_after_1 : decode cX1_after 1 = .ok (.tableswitch 137 0 6 #[43, 61, 79, 84, 100, 105, 124], 43) := by decide +kernel
theorem dX1_after_44 : decode cX1_after 44 = .ok (.iload_n 1, 1) := by decide +kernel
theorem dX1_after_45 : decode cX1_after 45 = .ok (.bipush 48, 2) := by decide +kernel
theorem dX1_after_47 : decode cX1_after 47 = .ok (.bipush 53, 2) := by decide +kernel
theorem dX1_after_49 : decode cX1_after 49 = .ok (.invokestatic 17, 3) := by decide +kernel
theorem dX1_after_52 : decode cX1_after 52 = .ok (.ifCond .eq 7, 3) := by decide +kernel
theorem dX1_after_55 : decode cX1_after 55 = .ok (.iconst 1, 1) := by decide +kernel
theorem dX1_after_56 : decode cX1_after 56 = .ok (.goto 5, 3) := by decide +kernel
theorem dX1_after_59 : decode cX1_after 59 = .ok (.bipush 7, 2) := by decide +kernel
theorem dX1_after_61 : decode cX1_after 61 = .ok (.ireturn, 1) := by decide +kernel
theorem dX1_after_62 : decode cX1_after 62 = .ok (.iload_n 1, 1) := by decide +kernel
theorem dX1_after_63 : decode cX1_after 63 = .ok (.bipush 97, 2) := by decide +kernel
theorem dX1_after_65 : decode cX1_after 65 = .ok (.bipush 102, 2) := by decide +kernel
theorem dX1_after_67 : decode cX1_after 67 = .ok (.invokestatic 17, 3) := by decide +kernel
theorem dX1_after_70 : decode cX1_after 70 = .ok (.ifCond .eq 7, 3) := by decide +kernel
theorem dX1_after_73 : decode cX1_after 73 = .ok (.iconst 2, 1) := by decide +kernel
theorem dX1_after_74 : decode cX1_after 74 = .ok (.goto 5, 3) := by decide +kernel
theorem dX1_after_77 : decode cX1_after 77 = .ok (.bipush 7, 2) := by decide +kernel
theorem dX1_after_79 : decode cX1_after 79 = .ok (.ireturn, 1) := by decide +kernel
theorem dX1_after_80 : decode cX1_after 80 = .ok (.iload_n 1, 1) := by decide +kernel
theorem dX1_after_81 : decode cX1_after 81 = .ok (.invokestatic 33, 3) := by decide +kernel
theorem dX1_after_84 : decode cX1_after 84 = .ok (.ireturn, 1) := by decide +kernel
theorem dX1_after_85 : decode cX1_after 85 = .ok (.iload_n 1, 1) := by decide +kernel
theorem dX1_after_86 : decode cX1_after 86 = .ok (.invokestatic 37, 3) := by decide +kernel
theorem dX1_after_89 : decode cX1_after 89 = .ok (.ifCond .eq 7, 3) := by decide +kernel
theorem dX1_after_92 : decode cX1_after 92 = .ok (.iconst 4, 1) := by decide +kernel
theorem dX1_after_93 : decode cX1_after 93 = .ok (.goto 7, 3) := by decide +kernel
theorem dX1_after_96 : decode cX1_after 96 = .ok (.iload_n 1, 1) := by decide +kernel
theorem dX1_after_97 : decode cX1_after 97 = .ok (.invokestatic 40, 3) := by decide +kernel
theorem dX1_after_100 : decode cX1_after 100 = .ok (.ireturn, 1) := by decide +kernel
theorem dX1_after_101 : decode cX1_after 101 = .ok (.iload_n 1, 1) := by decide +kernel
theorem dX1_after_102 : decode cX1_after 102 = .ok (.invokestatic 40, 3) := by decide +kernel
theorem dX1_after_105 : decode cX1_after 105 = .ok (.ireturn, 1) := by decide +kernel
theorem dX1_after_106 : decode cX1_after 106 = .ok (.iload_n 1, 1) := by decide +kernel
theorem dX1_after_107 : decode cX1_after 107 = .ok (.bipush 49, 2) := by decide +kernel
theorem dX1_after_109 : decode cX1_after 109 = .ok (.bipush 52, 2) := by decide +kernel
theorem dX1_after_111 : decode cX1_after 111 = .ok (.invokestatic 17, 3) := by decide +kernel
theorem dX1_after_114 : decode cX1_after 114 = .ok (.ifCond .eq 8, 3) := by decide +kernel
theorem dX1_after_117 : decode cX1_after 117 = .ok (.bipush 6, 2) := by decide +kernel
theorem dX1_after_119 : decode cX1_after 119 = .ok (.goto 5, 3) := by decide +kernel
theorem dX1_after_122 : decode cX1_after 122 = .ok (.bipush 7, 2) := by decide +kernel
theorem dX1_after_124 : decode cX1_after 124 = .ok (.ireturn, 1) := by decide +kernel
theorem dX1_after_125 : decode cX1_after 125 = .ok (.iload_n 1, 1) := by decide +kernel
theorem dX1_after_126 : decode cX1_after 126 = .ok (.bipush 44, 2) := by decide +kernel
theorem dX1_after_128 : decode cX1_after 128 = .ok (.if_icmp .ne 7, 3) := by decide +kernel
theorem dX1_after_131 : decode cX1_after 131 = .ok (.iconst 0, 1) := by decide +kernel
theorem dX1_after_132 : decode cX1_after 132 = .ok (.goto 5, 3) := by decide +kernel
theorem dX1_after_135 : decode cX1_after 135 = .ok (.bipush 7, 2) := by decide +kernel
theorem dX1_after_137 : decode cX1_after 137 = .ok (.ireturn, 1) := by decide +kernel
theorem dX1_after_138 : decode cX1_after 138 = .ok (.bipush 7, 2) := by decide +kernel
theorem dX1_after_140 : decode cX1_after 140 = .ok (.ireturn, 1) := by decide +kernel
theorem dX1_afterFirstDigit_0 : decode cX1_afterFirstDigit 0 = .ok (.iload_n 0, 1) := by decide +kernel
theorem dX1_afterFirstDigit_1 : decode cX1_afterFirstDigit 1 = .ok (.invokestatic 37, 3) := by decide +kernel
theorem dX1_afterFirstDigit_4 : decode cX1_afterFirstDigit 4 = .ok (.ifCond .ne 6, 3) := by decide +kernel
theorem dX1_afterFirstDigit_7 : decode cX1_afterFirstDigit 7 = .ok (.bipush 7, 2) := by decide +kernel
theorem dX1_afterFirstDigit_9 : decode cX1_afterFirstDigit 9 = .ok (.ireturn, 1) := by decide +kernel
theorem dX1_afterFirstDigit_10 : decode cX1_afterFirstDigit 10 = .ok (.iload_n 0, 1) := by decide +kernel
theorem dX1_afterFirstDigit_11 : decode cX1_afterFirstDigit 11 = .ok (.bipush 48, 2) := by decide +kernel
theorem dX1_afterFirstDigit_13 : decode cX1_afterFirstDigit 13 = .ok (.if_icmp .ne 7, 3) := by decide +kernel
theorem dX1_afterFirstDigit_16 : decode cX1_afterFirstDigit 16 = .ok (.iconst 4, 1) := by decide +kernel
theorem dX1_afterFirstDigit_17 : decode cX1_afterFirstDigit 17 = .ok (.goto 4, 3) := by decide +kernel
theorem dX1_afterFirstDigit_20 : decode cX1_afterFirstDigit 20 = .ok (.iconst 3, 1) := by decide +kernel
theorem dX1_afterFirstDigit_21 : decode cX1_afterFirstDigit 21 = .ok (.ireturn, 1) := by decide +kernel
theorem dX1_afterDoor_0 : decode cX1_afterDoor 0 = .ok (.iload_n 0, 1) := by decide +kernel
theorem dX1_afterDoor_1 : decode cX1_afterDoor 1 = .ok (.bipush 120, 2) := by decide +kernel
theorem dX1_afterDoor_3 : decode cX1_afterDoor 3 = .ok (.if_icmp .ne 5, 3) := by decide +kernel
theorem dX1_afterDoor_6 : decode cX1_afterDoor 6 = .ok (.iconst 5, 1) := by decide +kernel
theorem dX1_afterDoor_7 : decode cX1_afterDoor 7 = .ok (.ireturn, 1) := by decide +kernel
theorem dX1_afterDoor_8 : decode cX1_afterDoor 8 = .ok (.iload_n 0, 1) := by decide +kernel
theorem dX1_afterDoor_9 : decode cX1_afterDoor 9 = .ok (.bipush 44, 2) := by decide +kernel
theorem dX1_afterDoor_11 : decode cX1_afterDoor 11 = .ok (.if_icmp .ne 7, 3) := by decide +kernel
theorem dX1_afterDoor_14 : decode cX1_afterDoor 14 = .ok (.iconst 0, 1) := by decide +kernel
theorem dX1_afterDoor_15 : decode cX1_afterDoor 15 = .ok (.goto 5, 3) := by decide +kernel
theorem dX1_afterDoor_18 : decode cX1_afterDoor 18 = .ok (.bipush 7, 2) := by decide +kernel
theorem dX1_afterDoor_20 : decode cX1_afterDoor 20 = .ok (.ireturn, 1) := by decide +kernel
theorem dX1_isDigit_0 : decode cX1_isDigit 0 = .ok (.iload_n 0, 1) := by decide +kernel
theorem dX1_isDigit_1 : decode cX1_isDigit 1 = .ok (.bipush 48, 2) := by decide +kernel
theorem dX1_isDigit_3 : decode cX1_isDigit 3 = .ok (.bipush 57, 2) := by decide +kernel
theorem dX1_isDigit_5 : decode cX1_isDigit 5 = .ok (.invokestatic 17, 3) := by decide +kernel
theorem dX1_isDigit_8 : decode cX1_isDigit 8 = .ok (.ireturn, 1) := by decide +kernel
theorem dX1_riderCount_0 : decode cX1_riderCount 0 = .ok (.iconst 1, 1) := by decide +kernel
theorem dX1_riderCount_1 : decode cX1_riderCount 1 = .ok (.istore_n 1, 1) := by decide +kernel
theorem dX1_riderCount_2 : decode cX1_riderCount 2 = .ok (.iconst 0, 1) := by decide +kernel
theorem dX1_riderCount_3 : decode cX1_riderCount 3 = .ok (.istore_n 2, 1) := by decide +kernel
theorem dX1_riderCount_4 : decode cX1_riderCount 4 = .ok (.iload_n 2, 1) := by decide +kernel
theorem dX1_riderCount_5 : decode cX1_riderCount 5 = .ok (.aload_n 0, 1) := by decide +kernel
theorem dX1_riderCount_6 : decode cX1_riderCount 6 = .ok (.getfield 21, 3) := by decide +kernel
theorem dX1_riderCount_9 : decode cX1_riderCount 9 = .ok (.if_icmp .ge 23, 3) := by decide +kernel
theorem dX1_riderCount_12 : decode cX1_riderCount 12 = .ok (.aload_n 0, 1) := by decide +kernel
theorem dX1_riderCount_13 : decode cX1_riderCount 13 = .ok (.getfield 9, 3) := by decide +kernel
theorem dX1_riderCount_16 : decode cX1_riderCount 16 = .ok (.iload_n 2, 1) := by decide +kernel
theorem dX1_riderCount_17 : decode cX1_riderCount 17 = .ok (.iaload, 1) := by decide +kernel
theorem dX1_riderCount_18 : decode cX1_riderCount 18 = .ok (.bipush 44, 2) := by decide +kernel
theorem dX1_riderCount_20 : decode cX1_riderCount 20 = .ok (.if_icmp .ne 6, 3) := by decide +kernel
theorem dX1_riderCount_23 : decode cX1_riderCount 23 = .ok (.iinc 1 1, 3) := by decide +kernel
theorem dX1_riderCount_26 : decode cX1_riderCount 26 = .ok (.iinc 2 1, 3) := by decide +kernel
theorem dX1_riderCount_29 : decode cX1_riderCount 29 = .ok (.goto (-25), 3) := by decide +kernel
theorem dX1_riderCount_32 : decode cX1_riderCount 32 = .ok (.iload_n 1, 1) := by decide +kernel
theorem dX1_riderCount_33 : decode cX1_riderCount 33 = .ok (.ireturn, 1) := by decide +kernel
theorem dX1_addRidersTo_0 : decode cX1_addRidersTo 0 = .ok (.aload_n 0, 1) := by decide +kernel
theorem dX1_addRidersTo_1 : decode cX1_addRidersTo 1 = .ok (.invokevirtual 43, 3) := by decide +kernel
theorem dX1_addRidersTo_4 : decode cX1_addRidersTo 4 = .ok (.istore_n 2, 1) := by decide +kernel
theorem dX1_addRidersTo_5 : decode cX1_addRidersTo 5 = .ok (.iconst 0, 1) := by decide +kernel
theorem dX1_addRidersTo_6 : decode cX1_addRidersTo 6 = .ok (.istore_n 3, 1) := by decide +kernel
theorem dX1_addRidersTo_7 : decode cX1_addRidersTo 7 = .ok (.iconst 0, 1) := by decide +kernel
theorem dX1_addRidersTo_8 : decode cX1_addRidersTo 8 = .ok (.istore 4, 2) := by decide +kernel
theorem dX1_addRidersTo_10 : decode cX1_addRidersTo 10 = .ok (.iload 4, 2) := by decide +kernel
theorem dX1_addRidersTo_12 : decode cX1_addRidersTo 12 = .ok (.iload_n 2, 1) := by decide +kernel
theorem dX1_addRidersTo_13 : decode cX1_addRidersTo 13 = .ok (.if_icmp .ge 18, 3) := by decide +kernel
theorem dX1_addRidersTo_16 : decode cX1_addRidersTo 16 = .ok (.aload_n 0, 1) := by decide +kernel
theorem dX1_addRidersTo_17 : decode cX1_addRidersTo 17 = .ok (.aload_n 1, 1) := by decide +kernel
theorem dX1_addRidersTo_18 : decode cX1_addRidersTo 18 = .ok (.iload_n 3, 1) := by decide +kernel
theorem dX1_addRidersTo_19 : decode cX1_addRidersTo 19 = .ok (.invokevirtual 47, 3) := by decide +kernel
theorem dX1_addRidersTo_22 : decode cX1_addRidersTo 22 = .ok (.iconst 1, 1) := by decide +kernel
theorem dX1_addRidersTo_23 : decode cX1_addRidersTo 23 = .ok (.iadd, 1) := by decide +kernel
theorem dX1_addRidersTo_24 : decode cX1_addRidersTo 24 = .ok (.istore_n 3, 1) := by decide +kernel
theorem dX1_addRidersTo_25 : decode cX1_addRidersTo 25 = .ok (.iinc 4 1, 3) := by decide +kernel
theorem dX1_addRidersTo_28 : decode cX1_addRidersTo 28 = .ok (.goto (-18), 3) := by decide +kernel
theorem dX1_addRidersTo_31 : decode cX1_addRidersTo 31 = .ok (.return_, 1) := by decide +kernel
theorem dX1_addRiderTo_0 : decode cX1_addRiderTo 0 = .ok (.aload_n 0, 1) := by decide +kernel
theorem dX1_addRiderTo_1 : decode cX1_addRiderTo 1 = .ok (.iload_n 2, 1) := by decide +kernel
theorem dX1_addRiderTo_2 : decode cX1_addRiderTo 2 = .ok (.invokevirtual 51, 3) := by decide +kernel
theorem dX1_addRiderTo_5 : decode cX1_addRiderTo 5 = .ok (.bipush 48, 2) := by decide +kernel
theorem dX1_addRiderTo_7 : decode cX1_addRiderTo 7 = .ok (.isub, 1) := by decide +kernel
theorem dX1_addRiderTo_8 : decode cX1_addRiderTo 8 = .ok (.istore_n 3, 1) := by decide +kernel
theorem dX1_addRiderTo_9 : decode cX1_addRiderTo 9 = .ok (.aload_n 0, 1) := by decide +kernel
theorem dX1_addRiderTo_10 : decode cX1_addRiderTo 10 = .ok (.iload_n 2, 1) := by decide +kernel
theorem dX1_addRiderTo_11 : decode cX1_addRiderTo 11 = .ok (.iconst 1, 1) := by decide +kernel
theorem dX1_addRiderTo_12 : decode cX1_addRiderTo 12 = .ok (.iadd, 1) := by decide +kernel
theorem dX1_addRiderTo_13 : decode cX1_addRiderTo 13 = .ok (.invokevirtual 51, 3) := by decide +kernel
theorem dX1_addRiderTo_16 : decode cX1_addRiderTo 16 = .ok (.bipush 97, 2) := by decide +kernel
theorem dX1_addRiderTo_18 : decode cX1_addRiderTo 18 = .ok (.isub, 1) := by decide +kernel
theorem dX1_addRiderTo_19 : decode cX1_addRiderTo 19 = .ok (.istore 4, 2) := by decide +kernel
theorem dX1_addRiderTo_21 : decode cX1_addRiderTo 21 = .ok (.aload_n 0, 1) := by decide +kernel
theorem dX1_addRiderTo_22 : decode cX1_addRiderTo 22 = .ok (.iload_n 2, 1) := by decide +kernel
theorem dX1_addRiderTo_23 : decode cX1_addRiderTo 23 = .ok (.iconst 2, 1) := by decide +kernel
theorem dX1_addRiderTo_24 : decode cX1_addRiderTo 24 = .ok (.iadd, 1) := by decide +kernel
theorem dX1_addRiderTo_25 : decode cX1_addRiderTo 25 = .ok (.invokevirtual 51, 3) := by decide +kernel
theorem dX1_addRiderTo_28 : decode cX1_addRiderTo 28 = .ok (.bipush 48, 2) := by decide +kernel
theorem dX1_addRiderTo_30 : decode cX1_addRiderTo 30 = .ok (.isub, 1) := by decide +kernel
theorem dX1_addRiderTo_31 : decode cX1_addRiderTo 31 = .ok (.istore 5, 2) := by decide +kernel
theorem dX1_addRiderTo_33 : decode cX1_addRiderTo 33 = .ok (.iload_n 2, 1) := by decide +kernel
theorem dX1_addRiderTo_34 : decode cX1_addRiderTo 34 = .ok (.iconst 3, 1) := by decide +kernel
theorem dX1_addRiderTo_35 : decode cX1_addRiderTo 35 = .ok (.iadd, 1) := by decide +kernel
theorem dX1_addRiderTo_36 : decode cX1_addRiderTo 36 = .ok (.istore 6, 2) := by decide +kernel
theorem dX1_addRiderTo_38 : decode cX1_addRiderTo 38 = .ok (.aload_n 0, 1) := by decide +kernel
theorem dX1_addRiderTo_39 : decode cX1_addRiderTo 39 = .ok (.iload 6, 2) := by decide +kernel
theorem dX1_addRiderTo_41 : decode cX1_addRiderTo 41 = .ok (.invokevirtual 51, 3) := by decide +kernel
theorem dX1_addRiderTo_44 : decode cX1_addRiderTo 44 = .ok (.invokestatic 37, 3) := by decide +kernel
theorem dX1_addRiderTo_47 : decode cX1_addRiderTo 47 = .ok (.ifCond .eq 23, 3) := by decide +kernel
theorem dX1_addRiderTo_50 : decode cX1_addRiderTo 50 = .ok (.bipush 10, 2) := by decide +kernel
theorem dX1_addRiderTo_52 : decode cX1_addRiderTo 52 = .ok (.iload 5, 2) := by decide +kernel
theorem dX1_addRiderTo_54 : decode cX1_addRiderTo 54 = .ok (.imul, 1) := by decide +kernel
theorem dX1_addRiderTo_55 : decode cX1_addRiderTo 55 = .ok (.aload_n 0, 1) := by decide +kernel
theorem dX1_addRiderTo_56 : decode cX1_addRiderTo 56 = .ok (.iload 6, 2) := by decide +kernel
theorem dX1_addRiderTo_58 : decode cX1_addRiderTo 58 = .ok (.invokevirtual 51, 3) := by decide +kernel
theorem dX1_addRiderTo_61 : decode cX1_addRiderTo 61 = .ok (.iadd, 1) := by decide +kernel
theorem dX1_addRiderTo_62 : decode cX1_addRiderTo 62 = .ok (.bipush 48, 2) := by decide +kernel
theorem dX1_addRiderTo_64 : decode cX1_addRiderTo 64 = .ok (.isub, 1) := by decide +kernel
theorem dX1_addRiderTo_65 : decode cX1_addRiderTo 65 = .ok (.istore 5, 2) := by decide +kernel
theorem dX1_addRiderTo_67 : decode cX1_addRiderTo 67 = .ok (.iinc 6 1, 3) := by decide +kernel
theorem dX1_addRiderTo_70 : decode cX1_addRiderTo 70 = .ok (.iconst 1, 1) := by decide +kernel
theorem dX1_addRiderTo_71 : decode cX1_addRiderTo 71 = .ok (.istore 7, 2) := by decide +kernel
theorem dX1_addRiderTo_73 : decode cX1_addRiderTo 73 = .ok (.aload_n 0, 1) := by decide +kernel
theorem dX1_addRiderTo_74 : decode cX1_addRiderTo 74 = .ok (.iload 6, 2) := by decide +kernel
theorem dX1_addRiderTo_76 : decode cX1_addRiderTo 76 = .ok (.invokevirtual 51, 3) := by decide +kernel
theorem dX1_addRiderTo_79 : decode cX1_addRiderTo 79 = .ok (.bipush 120, 2) := by decide +kernel
theorem dX1_addRiderTo_81 : decode cX1_addRiderTo 81 = .ok (.if_icmp .ne 19, 3) := by decide +kernel
theorem dX1_addRiderTo_84 : decode cX1_addRiderTo 84 = .ok (.aload_n 0, 1) := by decide +kernel
theorem dX1_addRiderTo_85 : decode cX1_addRiderTo 85 = .ok (.iload 6, 2) := by decide +kernel
theorem dX1_addRiderTo_87 : decode cX1_addRiderTo 87 = .ok (.iconst 1, 1) := by decide +kernel
theorem dX1_addRiderTo_88 : decode cX1_addRiderTo 88 = .ok (.iadd, 1) := by decide +kernel
theorem dX1_addRiderTo_89 : decode cX1_addRiderTo 89 = .ok (.invokevirtual 51, 3) := by decide +kernel
theorem dX1_addRiderTo_92 : decode cX1_addRiderTo 92 = .ok (.bipush 48, 2) := by decide +kernel
theorem dX1_addRiderTo_94 : decode cX1_addRiderTo 94 = .ok (.isub, 1) := by decide +kernel
theorem dX1_addRiderTo_95 : decode cX1_addRiderTo 95 = .ok (.istore 7, 2) := by decide +kernel
theorem dX1_addRiderTo_97 : decode cX1_addRiderTo 97 = .ok (.iinc 6 2, 3) := by decide +kernel
theorem dX1_addRiderTo_100 : decode cX1_addRiderTo 100 = .ok (.aload_n 1, 1) := by decide +kernel
theorem dX1_addRiderTo_101 : decode cX1_addRiderTo 101 = .ok (.iload_n 3, 1) := by decide +kernel
theorem dX1_addRiderTo_102 : decode cX1_addRiderTo 102 = .ok (.iload 4, 2) := by decide +kernel
theorem dX1_addRiderTo_104 : decode cX1_addRiderTo 104 = .ok (.iload 5, 2) := by decide +kernel
theorem dX1_addRiderTo_106 : decode cX1_addRiderTo 106 = .ok (.iload 7, 2) := by decide +kernel
theorem dX1_addRiderTo_108 : decode cX1_addRiderTo 108 = .ok (.invokevirtual 54, 3) := by decide +kernel
theorem dX1_addRiderTo_111 : decode cX1_addRiderTo 111 = .ok (.iload 6, 2) := by decide +kernel
theorem dX1_addRiderTo_113 : decode cX1_addRiderTo 113 = .ok (.ireturn, 1) := by decide +kernel
theorem dX1_codeAt_0 : decode cX1_codeAt 0 = .ok (.iload_n 1, 1) := by decide +kernel
theorem dX1_codeAt_1 : decode cX1_codeAt 1 = .ok (.iconst 0, 1) := by decide +kernel
theorem dX1_codeAt_2 : decode cX1_codeAt 2 = .ok (.aload_n 0, 1) := by decide +kernel
theorem dX1_codeAt_3 : decode cX1_codeAt 3 = .ok (.getfield 21, 3) := by decide +kernel
theorem dX1_codeAt_6 : decode cX1_codeAt 6 = .ok (.iconst 1, 1) := by decide +kernel
theorem dX1_codeAt_7 : decode cX1_codeAt 7 = .ok (.isub, 1) := by decide +kernel
theorem dX1_codeAt_8 : decode cX1_codeAt 8 = .ok (.invokestatic 17, 3) := by decide +kernel
theorem dX1_codeAt_11 : decode cX1_codeAt 11 = .ok (.ifCond .eq 12, 3) := by decide +kernel
theorem dX1_codeAt_14 : decode cX1_codeAt 14 = .ok (.aload_n 0, 1) := by decide +kernel
theorem dX1_codeAt_15 : decode cX1_codeAt 15 = .ok (.getfield 9, 3) := by decide +kernel
theorem dX1_codeAt_18 : decode cX1_codeAt 18 = .ok (.iload_n 1, 1) := by decide +kernel
theorem dX1_codeAt_19 : decode cX1_codeAt 19 = .ok (.iaload, 1) := by decide +kernel
theorem dX1_codeAt_20 : decode cX1_codeAt 20 = .ok (.goto 4, 3) := by decide +kernel
theorem dX1_codeAt_23 : decode cX1_codeAt 23 = .ok (.iconst 0, 1) := by decide +kernel
theorem dX1_codeAt_24 : decode cX1_codeAt 24 = .ok (.ireturn, 1) := by decide +kernel
theorem dX2_init_0 : decode cX2_init 0 = .ok (.aload_n 0, 1) := by decide +kernel
theorem dX2_init_1 : decode cX2_init 1 = .ok (.invokespecial 3, 3) := by decide +kernel
theorem dX2_init_4 : decode cX2_init 4 = .ok (.aload_n 0, 1) := by decide +kernel
theorem dX2_init_5 : decode cX2_init 5 = .ok (.bipush 24, 2) := by decide +kernel
theorem dX2_init_7 : decode cX2_init 7 = .ok (.newarray .int, 2) := by decide +kernel
theorem dX2_init_9 : decode cX2_init 9 = .ok (.putfield 9, 3) := by decide +kernel
theorem dX2_init_12 : decode cX2_init 12 = .ok (.aload_n 0, 1) := by decide +kernel
theorem dX2_init_13 : decode cX2_init 13 = .ok (.bipush 24, 2) := by decide +kernel
theorem dX2_init_15 : decode cX2_init 15 = .ok (.newarray .int, 2) := by decide +kernel
theorem dX2_init_17 : decode cX2_init 17 = .ok (.putfield 15, 3) := by decide +kernel
theorem dX2_init_20 : decode cX2_init 20 = .ok (.aload_n 0, 1) := by decide +kernel
theorem dX2_init_21 : decode cX2_init 21 = .ok (.bipush 24, 2) := by decide +kernel
theorem dX2_init_23 : decode cX2_init 23 = .ok (.newarray .int, 2) := by decide +kernel
theorem dX2_init_25 : decode cX2_init 25 = .ok (.putfield 18, 3) := by decide +kernel
theorem dX2_init_28 : decode cX2_init 28 = .ok (.aload_n 0, 1) := by decide +kernel
theorem dX2_init_29 : decode cX2_init 29 = .ok (.bipush 8, 2) := by decide +kernel
theorem dX2_init_31 : decode cX2_init 31 = .ok (.newarray .int, 2) := by decide +kernel
theorem dX2_init_33 : decode cX2_init 33 = .ok (.putfield 21, 3) := by decide +kernel
theorem dX2_init_36 : decode cX2_init 36 = .ok (.aload_n 0, 1) := by decide +kernel
theorem dX2_init_37 : decode cX2_init 37 = .ok (.bipush 8, 2) := by decide +kernel
theorem dX2_init_39 : decode cX2_init 39 = .ok (.newarray .int, 2) := by decide +kernel
theorem dX2_init_41 : decode cX2_init 41 = .ok (.putfield 24, 3) := by decide +kernel
theorem dX2_init_44 : decode cX2_init 44 = .ok (.return_, 1) := by decide +kernel
theorem dX2_make_0 : decode cX2_make 0 = .ok (.aload_n 0, 1) := by decide +kernel
theorem dX2_make_1 : decode cX2_make 1 = .ok (.aload_n 1, 1) := by decide +kernel
theorem dX2_make_2 : decode cX2_make 2 = .ok (.invokevirtual 27, 3) := by decide +kernel
theorem dX2_make_5 : decode cX2_make 5 = .ok (.aload_n 0, 1) := by decide +kernel
theorem dX2_make_6 : decode cX2_make 6 = .ok (.aload_n 1, 1) := by decide +kernel
theorem dX2_make_7 : decode cX2_make 7 = .ok (.invokevirtual 31, 3) := by decide +kernel
theorem dX2_make_10 : decode cX2_make 10 = .ok (.return_, 1) := by decide +kernel
theorem dX2_lineUp_0 : decode cX2_lineUp 0 = .ok (.iconst 0, 1) := by decide +kernel
theorem dX2_lineUp_1 : decode cX2_lineUp 1 = .ok (.istore_n 2, 1) := by decide +kernel
theorem dX2_lineUp_2 : decode cX2_lineUp 2 = .ok (.iload_n 2, 1) := by decide +kernel
theorem dX2_lineUp_3 : decode cX2_lineUp 3 = .ok (.aload_n 1, 1) := by decide +kernel
theorem dX2_lineUp_4 : decode cX2_lineUp 4 = .ok (.getfield 34, 3) := by decide +kernel
theorem dX2_lineUp_7 : decode cX2_lineUp 7 = .ok (.if_icmp .ge 75, 3) := by decide +kernel
theorem dX2_lineUp_10 : decode cX2_lineUp 10 = .ok (.aload_n 0, 1) := by decide +kernel
theorem dX2_lineUp_11 : decode cX2_lineUp 11 = .ok (.getfield 15, 3) := by decide +kernel
theorem dX2_lineUp_14 : decode cX2_lineUp 14 = .ok (.iload_n 2, 1) := by decide +kernel
theorem dX2_lineUp_15 : decode cX2_lineUp 15 = .ok (.aload_n 1, 1) := by decide +kernel
theorem dX2_lineUp_16 : decode cX2_lineUp 16 = .ok (.iload_n 2, 1) := by decide +kernel
theorem dX2_lineUp_17 : decode cX2_lineUp 17 = .ok (.invokevirtual 40, 3) := by decide +kernel
theorem dX2_lineUp_20 : decode cX2_lineUp 20 = .ok (.iastore, 1) := by decide +kernel
theorem dX2_lineUp_21 : decode cX2_lineUp 21 = .ok (.iload_n 2, 1) := by decide +kernel
theorem dX2_lineUp_22 : decode cX2_lineUp 22 = .ok (.istore_n 3, 1) := by decide +kernel
theorem dX2_lineUp_23 : decode cX2_lineUp 23 = .ok (.iload_n 3, 1) := by decide +kernel
theorem dX2_lineUp_24 : decode cX2_lineUp 24 = .ok (.ifCond .le 45, 3) := by decide +kernel
theorem dX2_lineUp_27 : decode cX2_lineUp 27 = .ok (.aload_n 0, 1) := by decide +kernel
theorem dX2_lineUp_28 : decode cX2_lineUp 28 = .ok (.getfield 15, 3) := by decide +kernel
theorem dX2_lineUp_31 : decode cX2_lineUp 31 = .ok (.aload_n 0, 1) := by decide +kernel
theorem dX2_lineUp_32 : decode cX2_lineUp 32 = .ok (.getfield 9, 3) := by decide +kernel
theorem dX2_lineUp_35 : decode cX2_lineUp 35 = .ok (.iload_n 3, 1) := by decide +kernel
theorem dX2_lineUp_36 : decode cX2_lineUp 36 = .ok (.iconst 1, 1) := by decide +kernel
theorem dX2_lineUp_37 : decode cX2_lineUp 37 = .ok (.isub, 1) := by decide +kernel
theorem dX2_lineUp_38 : decode cX2_lineUp 38 = .ok (.iaload, 1) := by decide +kernel
theorem dX2_lineUp_39 : decode cX2_lineUp 39 = .ok (.iaload, 1) := by decide +kernel
theorem dX2_lineUp_40 : decode cX2_lineUp 40 = .ok (.aload_n 0, 1) := by decide +kernel
theorem dX2_lineUp_41 : decode cX2_lineUp 41 = .ok (.getfield 15, 3) := by decide +kernel
theorem dX2_lineUp_44 : decode cX2_lineUp 44 = .ok (.iload_n 2, 1) := by decide +kernel
theorem dX2_lineUp_45 : decode cX2_lineUp 45 = .ok (.iaload, 1) := by decide +kernel
theorem dX2_lineUp_46 : decode cX2_lineUp 46 = .ok (.if_icmp .le 23, 3) := by decide +kernel
theorem dX2_lineUp_49 : decode cX2_lineUp 49 = .ok (.aload_n 0, 1) := by decide +kernel
theorem dX2_lineUp_50 : decode cX2_lineUp 50 = .ok (.getfield 9, 3) := by decide +kernel
theorem dX2_lineUp_53 : decode cX2_lineUp 53 = .ok (.iload_n 3, 1) := by decide +kernel
theorem dX2_lineUp_54 : decode cX2_lineUp 54 = .ok (.aload_n 0, 1) := by decide +kernel
theorem dX2_lineUp_55 : decode cX2_lineUp 55 = .ok (.getfield 9, 3) := by decide +kernel
theorem dX2_lineUp_58 : decode cX2_lineUp 58 = .ok (.iload_n 3, 1) := by decide +kernel
theorem dX2_lineUp_59 : decode cX2_lineUp 59 = .ok (.iconst 1, 1) := by decide +kernel
theorem dX2_lineUp_60 : decode cX2_lineUp 60 = .ok (.isub, 1) := by decide +kernel
theorem dX2_lineUp_61 : decode cX2_lineUp 61 = .ok (.iaload, 1) := by decide +kernel
theorem dX2_lineUp_62 : decode cX2_lineUp 62 = .ok (.iastore, 1) := by decide +kernel
theorem dX2_lineUp_63 : decode cX2_lineUp 63 = .ok (.iinc 3 (-1), 3) := by decide +kernel
theorem dX2_lineUp_66 : decode cX2_lineUp 66 = .ok (.goto (-43), 3) := by decide +kernel
theorem dX2_lineUp_69 : decode cX2_lineUp 69 = .ok (.aload_n 0, 1) := by decide +kernel
theorem dX2_lineUp_70 : decode cX2_lineUp 70 = .ok (.getfield 9, 3) := by decide +kernel
theorem dX2_lineUp_73 : decode cX2_lineUp 73 = .ok (.iload_n 3, 1) := by decide +kernel
theorem dX2_lineUp_74 : decode cX2_lineUp 74 = .ok (.iload_n 2, 1) := by decide +kernel
theorem dX2_lineUp_75 : decode cX2_lineUp 75 = .ok (.iastore, 1) := by decide +kernel
theorem dX2_lineUp_76 : decode cX2_lineUp 76 = .ok (.iinc 2 1, 3) := by decide +kernel
theorem dX2_lineUp_79 : decode cX2_lineUp 79 = .ok (.goto (-77), 3) := by decide +kernel
theorem dX2_lineUp_82 : decode cX2_lineUp 82 = .ok (.return_, 1) := by decide +kernel
theorem dX2_board_0 : decode cX2_board 0 = .ok (.iconst 0, 1) := by decide +kernel
theorem dX2_board_1 : decode cX2_board 1 = .ok (.istore_n 2, 1) := by decide +kernel
theorem dX2_board_2 : decode cX2_board 2 = .ok (.iload_n 2, 1) := by decide +kernel
theorem dX2_board_3 : decode cX2_board 3 = .ok (.bipush 8, 2) := by decide +kernel
theorem dX2_board_5 : decode cX2_board 5 = .ok (.if_icmp .ge 23, 3) := by decide +kernel
theorem dX2_board_8 : decode cX2_board 8 = .ok (.aload_n 0, 1) := by decide +kernel
theorem dX2_board_9 : decode cX2_board 9 = .ok (.getfield 21, 3) := by decide +kernel
theorem dX2_board_12 : decode cX2_board 12 = .ok (.iload_n 2, 1) := by decide +kernel
theorem dX2_board_13 : decode cX2_board 13 = .ok (.iconst 0, 1) := by decide +kernel
theorem dX2_board_14 : decode cX2_board 14 = .ok (.iastore, 1) := by decide +kernel
theorem dX2_board_15 : decode cX2_board 15 = .ok (.aload_n 0, 1) := by decide +kernel
theorem dX2_board_16 : decode cX2_board 16 = .ok (.getfield 24, 3) := by decide +kernel
theorem dX2_board_19 : decode cX2_board 19 = .ok (.iload_n 2, 1) := by decide +kernel
theorem dX2_board_20 : decode cX2_board 20 = .ok (.iconst 0, 1) := by decide +kernel
theorem dX2_board_21 : decode cX2_board 21 = .ok (.iastore, 1) := by decide +kernel
theorem dX2_board_22 : decode cX2_board 22 = .ok (.iinc 2 1, 3) := by decide +kernel
theorem dX2_board_25 : decode cX2_board 25 = .ok (.goto (-23), 3) := by decide +kernel
theorem dX2_board_28 : decode cX2_board 28 = .ok (.aload_n 0, 1) := by decide +kernel
theorem dX2_board_29 : decode cX2_board 29 = .ok (.iconst 0, 1) := by decide +kernel
theorem dX2_board_30 : decode cX2_board 30 = .ok (.putfield 44, 3) := by decide +kernel
theorem dX2_board_33 : decode cX2_board 33 = .ok (.aload_n 0, 1) := by decide +kernel
theorem dX2_board_34 : decode cX2_board 34 = .ok (.iconst 0, 1) := by decide +kernel
theorem dX2_board_35 : decode cX2_board 35 = .ok (.putfield 47, 3) := by decide +kernel
theorem dX2_board_38 : decode cX2_board 38 = .ok (.aload_n 0, 1) := by decide +kernel
theorem dX2_board_39 : decode cX2_board 39 = .ok (.iconst 0, 1) := by decide +kernel
theorem dX2_board_40 : decode cX2_board 40 = .ok (.putfield 50, 3) := by decide +kernel
theorem dX2_board_43 : decode cX2_board 43 = .ok (.iconst 0, 1) := by decide +kernel
theorem dX2_board_44 : decode cX2_board 44 = .ok (.istore_n 2, 1) := by decide +kernel
theorem dX2_board_45 : decode cX2_board 45 = .ok (.iload_n 2, 1) := by decide +kernel
theorem dX2_board_46 : decode cX2_board 46 = .ok (.aload_n 1, 1) := by decide +kernel
theorem dX2_board_47 : decode cX2_board 47 = .ok (.getfield 34, 3) := by decide +kernel
theorem dX2_board_50 : decode cX2_board 50 = .ok (.if_icmp .ge 20, 3) := by decide +kernel
theorem dX2_board_53 : decode cX2_board 53 = .ok (.aload_n 0, 1) := by decide +kernel
theorem dX2_board_54 : decode cX2_board 54 = .ok (.aload_n 1, 1) := by decide +kernel
theorem dX2_board_55 : decode cX2_board 55 = .ok (.aload_n 0, 1) := by decide +kernel
theorem dX2_board_56 : decode cX2_board 56 = .ok (.getfield 9, 3) := by decide +kernel
theorem dX2_board_59 : decode cX2_board 59 = .ok (.iload_n 2, 1) := by decide +kernel
theorem dX2_board_60 : decode cX2_board 60 = .ok (.iaload, 1) := by decide +kernel
theorem dX2_board_61 : decode cX2_board 61 = .ok (.invokevirtual 53, 3) := by decide +kernel
theorem dX2_board_64 : decode cX2_board 64 = .ok (.iinc 2 1, 3) := by decide +kernel
theorem dX2_board_67 : decode cX2_board 67 = .ok (.goto (-22), 3) := by decide +kernel
theorem dX2_board_70 : decode cX2_board 70 = .ok (.return_, 1) := by decide +kernel
theorem dX2_boardOne_0 : decode cX2_boardOne 0 = .ok (.aload_n 1, 1) := by decide +kernel
theorem dX2_boardOne_1 : decode cX2_boardOne 1 = .ok (.getfield 57, 3) := by decide +kernel
theorem dX2_boardOne_4 : decode cX2_boardOne 4 = .ok (.iload_n 2, 1) := by decide +kernel
theorem dX2_boardOne_5 : decode cX2_boardOne 5 = .ok (.iaload, 1) := by decide +kernel
theorem dX2_boardOne_6 : decode cX2_boardOne 6 = .ok (.istore_n 3, 1) := by decide +kernel
theorem dX2_boardOne_7 : decode cX2_boardOne 7 = .ok (.aload_n 0, 1) := by decide +kernel
theorem dX2_boardOne_8 : decode cX2_boardOne 8 = .ok (.aload_n 1, 1) := by decide +kernel
theorem dX2_boardOne_9 : decode cX2_boardOne 9 = .ok (.iload_n 2, 1) := by decide +kernel
theorem dX2_boardOne_10 : decode cX2_boardOne 10 = .ok (.invokevirtual 60, 3) := by decide +kernel
theorem dX2_boardOne_13 : decode cX2_boardOne 13 = .ok (.istore 4, 2) := by decide +kernel
theorem dX2_boardOne_15 : decode cX2_boardOne 15 = .ok (.aload_n 0, 1) := by decide +kernel
theorem dX2_boardOne_16 : decode cX2_boardOne 16 = .ok (.getfield 18, 3) := by decide +kernel
theorem dX2_boardOne_19 : decode cX2_boardOne 19 = .ok (.iload_n 2, 1) := by decide +kernel
theorem dX2_boardOne_20 : decode cX2_boardOne 20 = .ok (.iload 4, 2) := by decide +kernel
theorem dX2_boardOne_22 : decode cX2_boardOne 22 = .ok (.iastore, 1) := by decide +kernel
theorem dX2_boardOne_23 : decode cX2_boardOne 23 = .ok (.iload 4, 2) := by decide +kernel
theorem dX2_boardOne_25 : decode cX2_boardOne 25 = .ok (.invokestatic 64, 3) := by decide +kernel
theorem dX2_boardOne_28 : decode cX2_boardOne 28 = .ok (.ifCond .ne 24, 3) := by decide +kernel
theorem dX2_boardOne_31 : decode cX2_boardOne 31 = .ok (.aload_n 0, 1) := by decide +kernel
theorem dX2_boardOne_32 : decode cX2_boardOne 32 = .ok (.dup, 1) := by decide +kernel
theorem dX2_boardOne_33 : decode cX2_boardOne 33 = .ok (.getfield 44, 3) := by decide +kernel
theorem dX2_boardOne_36 : decode cX2_boardOne 36 = .ok (.iconst 1, 1) := by decide +kernel
theorem dX2_boardOne_37 : decode cX2_boardOne 37 = .ok (.iadd, 1) := by decide +kernel
theorem dX2_boardOne_38 : decode cX2_boardOne 38 = .ok (.putfield 44, 3) := by decide +kernel
theorem dX2_boardOne_41 : decode cX2_boardOne 41 = .ok (.aload_n 0, 1) := by decide +kernel
theorem dX2_boardOne_42 : decode cX2_boardOne 42 = .ok (.dup, 1) := by decide +kernel
theorem dX2_boardOne_43 : decode cX2_boardOne 43 = .ok (.getfield 47, 3) := by decide +kernel
theorem dX2_boardOne_46 : decode cX2_boardOne 46 = .ok (.iload_n 3, 1) := by decide +kernel
theorem dX2_boardOne_47 : decode cX2_boardOne 47 = .ok (.iadd, 1) := by decide +kernel
theorem dX2_boardOne_48 : decode cX2_boardOne 48 = .ok (.putfield 47, 3) := by decide +kernel
theorem dX2_boardOne_51 : decode cX2_boardOne 51 = .ok (.return_, 1) := by decide +kernel
theorem dX2_boardOne_52 : decode cX2_boardOne 52 = .ok (.aload_n 0, 1) := by decide +kernel
theorem dX2_boardOne_53 : decode cX2_boardOne 53 = .ok (.getfield 21, 3) := by decide +kernel
theorem dX2_boardOne_56 : decode cX2_boardOne 56 = .ok (.iload 4, 2) := by decide +kernel
theorem dX2_boardOne_58 : decode cX2_boardOne 58 = .ok (.dup2, 1) := by decide +kernel
theorem dX2_boardOne_59 : decode cX2_boardOne 59 = .ok (.iaload, 1) := by decide +kernel
theorem dX2_boardOne_60 : decode cX2_boardOne 60 = .ok (.iload_n 3, 1) := by decide +kernel
theorem dX2_boardOne_61 : decode cX2_boardOne 61 = .ok (.iadd, 1) := by decide +kernel
theorem dX2_boardOne_62 : decode cX2_boardOne 62 = .ok (.iastore, 1) := by decide +kernel
theorem dX2_boardOne_63 : decode cX2_boardOne 63 = .ok (.aload_n 0, 1) := by decide +kernel
theorem dX2_boardOne_64 : decode cX2_boardOne 64 = .ok (.getfield 24, 3) := by decide +kernel
theorem dX2_boardOne_67 : decode cX2_boardOne 67 = .ok (.iload 4, 2) := by decide +kernel
theorem dX2_boardOne_69 : decode cX2_boardOne 69 = .ok (.dup2, 1) := by decide +kernel
theorem dX2_boardOne_70 : decode cX2_boardOne 70 = .ok (.iaload, 1) := by decide +kernel
theorem dX2_boardOne_71 : decode cX2_boardOne 71 = .ok (.iconst 1, 1) := by decide +kernel
theorem dX2_boardOne_72 : decode cX2_boardOne 72 = .ok (.aload_n 1, 1) := by decide +kernel
theorem dX2_boardOne_73 : decode cX2_boardOne 73 = .ok (.getfield 68, 3) := by decide +kernel
theorem dX2_boardOne_76 : decode cX2_boardOne 76 = .ok (.iload_n 2, 1) := by decide +kernel
theorem dX2_boardOne_77 : decode cX2_boardOne 77 = .ok (.iaload, 1) := by decide +kernel
theorem dX2_boardOne_78 : decode cX2_boardOne 78 = .ok (.ishl, 1) := by decide +kernel
theorem dX2_boardOne_79 : decode cX2_boardOne 79 = .ok (.ior, 1) := by decide +kernel
theorem dX2_boardOne_80 : decode cX2_boardOne 80 = .ok (.iastore, 1) := by decide +kernel
theorem dX2_boardOne_81 : decode cX2_boardOne 81 = .ok (.aload_n 0, 1) := by decide +kernel
theorem dX2_boardOne_82 : decode cX2_boardOne 82 = .ok (.dup, 1) := by decide +kernel
theorem dX2_boardOne_83 : decode cX2_boardOne 83 = .ok (.getfield 50, 3) := by decide +kernel
theorem dX2_boardOne_86 : decode cX2_boardOne 86 = .ok (.iload_n 3, 1) := by decide +kernel
theorem dX2_boardOne_87 : decode cX2_boardOne 87 = .ok (.aload_n 1, 1) := by decide +kernel
theorem dX2_boardOne_88 : decode cX2_boardOne 88 = .ok (.getfield 71, 3) := by decide +kernel
theorem dX2_boardOne_91 : decode cX2_boardOne 91 = .ok (.iload 4, 2) := by decide +kernel
theorem dX2_boardOne_93 : decode cX2_boardOne 93 = .ok (.iaload, 1) := by decide +kernel
theorem dX2_boardOne_94 : decode cX2_boardOne 94 = .ok (.aload_n 0, 1) := by decide +kernel
theorem dX2_boardOne_95 : decode cX2_boardOne 95 = .ok (.getfield 15, 3) := by decide +kernel
theorem dX2_boardOne_98 : decode cX2_boardOne 98 = .ok (.iload_n 2, 1) := by decide +kernel
theorem dX2_boardOne_99 : decode cX2_boardOne 99 = .ok (.iaload, 1) := by decide +kernel
theorem dX2_boardOne_100 : decode cX2_boardOne 100 = .ok (.isub, 1) := by decide +kernel
theorem dX2_boardOne_101 : decode cX2_boardOne 101 = .ok (.imul, 1) := by decide +kernel
theorem dX2_boardOne_102 : decode cX2_boardOne 102 = .ok (.iadd, 1) := by decide +kernel
theorem dX2_boardOne_103 : decode cX2_boardOne 103 = .ok (.putfield 50, 3) := by decide +kernel
theorem dX2_boardOne_106 : decode cX2_boardOne 106 = .ok (.return_, 1) := by decide +kernel
theorem dX2_firstVanFor_0 : decode cX2_firstVanFor 0 = .ok (.bipush (-106), 2) := by decide +kernel
theorem dX2_firstVanFor_2 : decode cX2_firstVanFor 2 = .ok (.istore_n 3, 1) := by decide +kernel
theorem dX2_firstVanFor_3 : decode cX2_firstVanFor 3 = .ok (.iconst 0, 1) := by decide +kernel
theorem dX2_firstVanFor_4 : decode cX2_firstVanFor 4 = .ok (.istore 4, 2) := by decide +kernel
theorem dX2_firstVanFor_6 : decode cX2_firstVanFor 6 = .ok (.iconst 0, 1) := by decide +kernel
theorem dX2_firstVanFor_7 : decode cX2_firstVanFor 7 = .ok (.istore 5, 2) := by decide +kernel
theorem dX2_firstVanFor_9 : decode cX2_firstVanFor 9 = .ok (.iload 5, 2) := by decide +kernel
theorem dX2_firstVanFor_11 : decode cX2_firstVanFor 11 = .ok (.bipush 8, 2) := by decide +kernel
theorem dX2_firstVanFor_13 : decode cX2_firstVanFor 13 = .ok (.if_icmp .ge 62, 3) := by decide +kernel
theorem dX2_firstVanFor_16 : decode cX2_firstVanFor 16 = .ok (.iload_n 3, 1) := by decide +kernel
theorem dX2_firstVanFor_17 : decode cX2_firstVanFor 17 = .ok (.bipush (-106), 2) := by decide +kernel
theorem dX2_firstVanFor_19 : decode cX2_firstVanFor 19 = .ok (.if_icmp .eq 15, 3) := by decide +kernel
theorem dX2_firstVanFor_22 : decode cX2_firstVanFor 22 = .ok (.aload_n 1, 1) := by decide +kernel
theorem dX2_firstVanFor_23 : decode cX2_firstVanFor 23 = .ok (.getfield 71, 3) := by decide +kernel
theorem dX2_firstVanFor_26 : decode cX2_firstVanFor 26 = .ok (.iload 5, 2) := by decide +kernel
theorem dX2_firstVanFor_28 : decode cX2_firstVanFor 28 = .ok (.iaload, 1) := by decide +kernel
theorem dX2_firstVanFor_29 : decode cX2_firstVanFor 29 = .ok (.iload 4, 2) := by decide +kernel
theorem dX2_firstVanFor_31 : decode cX2_firstVanFor 31 = .ok (.if_icmp .ge 7, 3) := by decide +kernel
theorem dX2_firstVanFor_34 : decode cX2_firstVanFor 34 = .ok (.iconst 1, 1) := by decide +kernel
theorem dX2_firstVanFor_35 : decode cX2_firstVanFor 35 = .ok (.goto 4, 3) := by decide +kernel
theorem dX2_firstVanFor_38 : decode cX2_firstVanFor 38 = .ok (.iconst 0, 1) := by decide +kernel
theorem dX2_firstVanFor_39 : decode cX2_firstVanFor 39 = .ok (.istore 6, 2) := by decide +kernel
theorem dX2_firstVanFor_41 : decode cX2_firstVanFor 41 = .ok (.iload 6, 2) := by decide +kernel
theorem dX2_firstVanFor_43 : decode cX2_firstVanFor 43 = .ok (.ifCond .eq 26, 3) := by decide +kernel
theorem dX2_firstVanFor_46 : decode cX2_firstVanFor 46 = .ok (.aload_n 0, 1) := by decide +kernel
theorem dX2_firstVanFor_47 : decode cX2_firstVanFor 47 = .ok (.aload_n 1, 1) := by decide +kernel
theorem dX2_firstVanFor_48 : decode cX2_firstVanFor 48 = .ok (.iload 5, 2) := by decide +kernel
theorem dX2_firstVanFor_50 : decode cX2_firstVanFor 50 = .ok (.iload_n 2, 1) := by decide +kernel
theorem dX2_firstVanFor_51 : decode cX2_firstVanFor 51 = .ok (.invokevirtual 74, 3) := by decide +kernel
theorem dX2_firstVanFor_54 : decode cX2_firstVanFor 54 = .ok (.ifCond .eq 15, 3) := by decide +kernel
theorem dX2_firstVanFor_57 : decode cX2_firstVanFor 57 = .ok (.iload 5, 2) := by decide +kernel
theorem dX2_firstVanFor_59 : decode cX2_firstVanFor 59 = .ok (.istore_n 3, 1) := by decide +kernel
theorem dX2_firstVanFor_60 : decode cX2_firstVanFor 60 = .ok (.aload_n 1, 1) := by decide +kernel
theorem dX2_firstVanFor_61 : decode cX2_firstVanFor 61 = .ok (.getfield 71, 3) := by decide +kernel
theorem dX2_firstVanFor_64 : decode cX2_firstVanFor 64 = .ok (.iload 5, 2) := by decide +kernel
theorem dX2_firstVanFor_66 : decode cX2_firstVanFor 66 = .ok (.iaload, 1) := by decide +kernel
theorem dX2_firstVanFor_67 : decode cX2_firstVanFor 67 = .ok (.istore 4, 2) := by decide +kernel
theorem dX2_firstVanFor_69 : decode cX2_firstVanFor 69 = .ok (.iinc 5 1, 3) := by decide +kernel
theorem dX2_firstVanFor_72 : decode cX2_firstVanFor 72 = .ok (.goto (-63), 3) := by decide +kernel
theorem dX2_firstVanFor_75 : decode cX2_firstVanFor 75 = .ok (.iload_n 3, 1) := by decide +kernel
theorem dX2_firstVanFor_76 : decode cX2_firstVanFor 76 = .ok (.ireturn, 1) := by decide +kernel
theorem dX2_takes_0 : decode cX2_takes 0 = .ok (.aload_n 1, 1) := by decide +kernel
theorem dX2_takes_1 : decode cX2_takes 1 = .ok (.getfield 71, 3) := by decide +kernel
theorem dX2_takes_4 : decode cX2_takes 4 = .ok (.iload_n 2, 1) := by decide +kernel
theorem dX2_takes_5 : decode cX2_takes 5 = .ok (.iaload, 1) := by decide +kernel
theorem dX2_takes_6 : decode cX2_takes 6 = .ok (.aload_n 0, 1) := by decide +kernel
theorem dX2_takes_7 : decode cX2_takes 7 = .ok (.getfield 15, 3) := by decide +kernel
theorem dX2_takes_10 : decode cX2_takes 10 = .ok (.iload_n 3, 1) := by decide +kernel
theorem dX2_takes_11 : decode cX2_takes 11 = .ok (.iaload, 1) := by decide +kernel
theorem dX2_takes_12 : decode cX2_takes 12 = .ok (.isub, 1) := by decide +kernel
theorem dX2_takes_13 : decode cX2_takes 13 = .ok (.istore 4, 2) := by decide +kernel
theorem dX2_takes_15 : decode cX2_takes 15 = .ok (.iload 4, 2) := by decide +kernel
theorem dX2_takes_17 : decode cX2_takes 17 = .ok (.iconst 0, 1) := by decide +kernel
theorem dX2_takes_18 : decode cX2_takes 18 = .ok (.aload_n 1, 1) := by decide +kernel
theorem dX2_takes_19 : decode cX2_takes 19 = .ok (.getfield 78, 3) := by decide +kernel
theorem dX2_takes_22 : decode cX2_takes 22 = .ok (.iconst 1, 1) := by decide +kernel
theorem dX2_takes_23 : decode cX2_takes 23 = .ok (.iaload, 1) := by decide +kernel
theorem dX2_takes_24 : decode cX2_takes 24 = .ok (.invokestatic 81, 3) := by decide +kernel
theorem dX2_takes_27 : decode cX2_takes 27 = .ok (.ifCond .ne 5, 3) := by decide +kernel
theorem dX2_takes_30 : decode cX2_takes 30 = .ok (.iconst 0, 1) := by decide +kernel
theorem dX2_takes_31 : decode cX2_takes 31 = .ok (.ireturn, 1) := by decide +kernel
theorem dX2_takes_32 : decode cX2_takes 32 = .ok (.aload_n 0, 1) := by decide +kernel
theorem dX2_takes_33 : decode cX2_takes 33 = .ok (.getfield 21, 3) := by decide +kernel
theorem dX2_takes_36 : decode cX2_takes 36 = .ok (.iload_n 2, 1) := by decide +kernel
theorem dX2_takes_37 : decode cX2_takes 37 = .ok (.iaload, 1) := by decide +kernel
theorem dX2_takes_38 : decode cX2_takes 38 = .ok (.aload_n 1, 1) := by decide +kernel
theorem dX2_takes_39 : decode cX2_takes 39 = .ok (.getfield 57, 3) := by decide +kernel
theorem dX2_takes_42 : decode cX2_takes 42 = .ok (.iload_n 3, 1) := by decide +kernel
theorem dX2_takes_43 : decode cX2_takes 43 = .ok (.iaload, 1) := by decide +kernel
theorem dX2_takes_44 : decode cX2_takes 44 = .ok (.iadd, 1) := by decide +kernel
theorem dX2_takes_45 : decode cX2_takes 45 = .ok (.aload_n 1, 1) := by decide +kernel
theorem dX2_takes_46 : decode cX2_takes 46 = .ok (.getfield 85, 3) := by decide +kernel
theorem dX2_takes_49 : decode cX2_takes 49 = .ok (.iload_n 2, 1) := by decide +kernel
theorem dX2_takes_50 : decode cX2_takes 50 = .ok (.iaload, 1) := by decide +kernel
theorem dX2_takes_51 : decode cX2_takes 51 = .ok (.if_icmp .le 5, 3) := by decide +kernel
theorem dX2_takes_54 : decode cX2_takes 54 = .ok (.iconst 0, 1) := by decide +kernel
theorem dX2_takes_55 : decode cX2_takes 55 = .ok (.ireturn, 1) := by decide +kernel
theorem dX2_takes_56 : decode cX2_takes 56 = .ok (.aload_n 0, 1) := by decide +kernel
theorem dX2_takes_57 : decode cX2_takes 57 = .ok (.getfield 24, 3) := by decide +kernel
theorem dX2_takes_60 : decode cX2_takes 60 = .ok (.iload_n 2, 1) := by decide +kernel
theorem dX2_takes_61 : decode cX2_takes 61 = .ok (.iaload, 1) := by decide +kernel
theorem dX2_takes_62 : decode cX2_takes 62 = .ok (.iconst 1, 1) := by decide +kernel
theorem dX2_takes_63 : decode cX2_takes 63 = .ok (.aload_n 1, 1) := by decide +kernel
theorem dX2_takes_64 : decode cX2_takes 64 = .ok (.getfield 68, 3) := by decide +kernel
theorem dX2_takes_67 : decode cX2_takes 67 = .ok (.iload_n 3, 1) := by decide +kernel
theorem dX2_takes_68 : decode cX2_takes 68 = .ok (.iaload, 1) := by decide +kernel
theorem dX2_takes_69 : decode cX2_takes 69 = .ok (.ishl, 1) := by decide +kernel
theorem dX2_takes_70 : decode cX2_takes 70 = .ok (.ior, 1) := by decide +kernel
theorem dX2_takes_71 : decode cX2_takes 71 = .ok (.istore 5, 2) := by decide +kernel
theorem dX2_takes_73 : decode cX2_takes 73 = .ok (.iload 5, 2) := by decide +kernel
theorem dX2_takes_75 : decode cX2_takes 75 = .ok (.invokestatic 88, 3) := by decide +kernel
theorem dX2_takes_78 : decode cX2_takes 78 = .ok (.aload_n 1, 1) := by decide +kernel
theorem dX2_takes_79 : decode cX2_takes 79 = .ok (.getfield 78, 3) := by decide +kernel
theorem dX2_takes_82 : decode cX2_takes 82 = .ok (.iconst 2, 1) := by decide +kernel
theorem dX2_takes_83 : decode cX2_takes 83 = .ok (.iaload, 1) := by decide +kernel
theorem dX2_takes_84 : decode cX2_takes 84 = .ok (.if_icmp .gt 7, 3) := by decide +kernel
theorem dX2_takes_87 : decode cX2_takes 87 = .ok (.iconst 1, 1) := by decide +kernel
theorem dX2_takes_88 : decode cX2_takes 88 = .ok (.goto 4, 3) := by decide +kernel
theorem dX2_takes_91 : decode cX2_takes 91 = .ok (.iconst 0, 1) := by decide +kernel
theorem dX2_takes_92 : decode cX2_takes 92 = .ok (.ireturn, 1) := by decide +kernel
theorem dX2_waitOf_0 : decode cX2_waitOf 0 = .ok (.aload_n 0, 1) := by decide +kernel
theorem dX2_waitOf_1 : decode cX2_waitOf 1 = .ok (.getfield 18, 3) := by decide +kernel
theorem dX2_waitOf_4 : decode cX2_waitOf 4 = .ok (.iload_n 2, 1) := by decide +kernel
theorem dX2_waitOf_5 : decode cX2_waitOf 5 = .ok (.iaload, 1) := by decide +kernel
theorem dX2_waitOf_6 : decode cX2_waitOf 6 = .ok (.istore_n 3, 1) := by decide +kernel
theorem dX2_waitOf_7 : decode cX2_waitOf 7 = .ok (.iload_n 3, 1) := by decide +kernel
theorem dX2_waitOf_8 : decode cX2_waitOf 8 = .ok (.invokestatic 64, 3) := by decide +kernel
theorem dX2_waitOf_11 : decode cX2_waitOf 11 = .ok (.ifCond .eq 19, 3) := by decide +kernel
theorem dX2_waitOf_14 : decode cX2_waitOf 14 = .ok (.aload_n 1, 1) := by decide +kernel
theorem dX2_waitOf_15 : decode cX2_waitOf 15 = .ok (.getfield 71, 3) := by decide +kernel
theorem dX2_waitOf_18 : decode cX2_waitOf 18 = .ok (.iload_n 3, 1) := by decide +kernel
theorem dX2_waitOf_19 : decode cX2_waitOf 19 = .ok (.iaload, 1) := by decide +kernel
theorem dX2_waitOf_20 : decode cX2_waitOf 20 = .ok (.aload_n 0, 1) := by decide +kernel
theorem dX2_waitOf_21 : decode cX2_waitOf 21 = .ok (.getfield 15, 3) := by decide +kernel
theorem dX2_waitOf_24 : decode cX2_waitOf 24 = .ok (.iload_n 2, 1) := by decide +kernel
theorem dX2_waitOf_25 : decode cX2_waitOf 25 = .ok (.iaload, 1) := by decide +kernel
theorem dX2_waitOf_26 : decode cX2_waitOf 26 = .ok (.isub, 1) := by decide +kernel
theorem dX2_waitOf_27 : decode cX2_waitOf 27 = .ok (.goto 5, 3) := by decide +kernel
theorem dX2_waitOf_30 : decode cX2_waitOf 30 = .ok (.bipush (-106), 2) := by decide +kernel
theorem dX2_waitOf_32 : decode cX2_waitOf 32 = .ok (.ireturn, 1) := by decide +kernel
theorem dX2_isAtKerb_0 : decode cX2_isAtKerb 0 = .ok (.aload_n 0, 1) := by decide +kernel
theorem dX2_isAtKerb_1 : decode cX2_isAtKerb 1 = .ok (.getfield 15, 3) := by decide +kernel
theorem dX2_isAtKerb_4 : decode cX2_isAtKerb 4 = .ok (.iload_n 2, 1) := by decide +kernel
theorem dX2_isAtKerb_5 : decode cX2_isAtKerb 5 = .ok (.iaload, 1) := by decide +kernel
theorem dX2_isAtKerb_6 : decode cX2_isAtKerb 6 = .ok (.iload_n 3, 1) := by decide +kernel
theorem dX2_isAtKerb_7 : decode cX2_isAtKerb 7 = .ok (.if_icmp .le 5, 3) := by decide +kernel
theorem dX2_isAtKerb_10 : decode cX2_isAtKerb 10 = .ok (.iconst 0, 1) := by decide +kernel
theorem dX2_isAtKerb_11 : decode cX2_isAtKerb 11 = .ok (.ireturn, 1) := by decide +kernel
theorem dX2_isAtKerb_12 : decode cX2_isAtKerb 12 = .ok (.aload_n 0, 1) := by decide +kernel
theorem dX2_isAtKerb_13 : decode cX2_isAtKerb 13 = .ok (.getfield 18, 3) := by decide +kernel
theorem dX2_isAtKerb_16 : decode cX2_isAtKerb 16 = .ok (.iload_n 2, 1) := by decide +kernel
theorem dX2_isAtKerb_17 : decode cX2_isAtKerb 17 = .ok (.iaload, 1) := by decide +kernel
theorem dX2_isAtKerb_18 : decode cX2_isAtKerb 18 = .ok (.istore 4, 2) := by decide +kernel
theorem dX2_isAtKerb_20 : decode cX2_isAtKerb 20 = .ok (.iload 4, 2) := by decide +kernel
theorem dX2_isAtKerb_22 : decode cX2_isAtKerb 22 = .ok (.invokestatic 64, 3) := by decide +kernel
