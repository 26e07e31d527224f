theorem dX6_undo_10 : decode cX6_undo 10 = .ok (.aload_n 0, 1) := by decide +kernel
theorem dX6_undo_11 : decode cX6_undo 11 = .ok (.dup, 1) := by decide +kernel
theorem dX6_undo_12 : decode cX6_undo 12 = .ok (.getfield 50, 3) := by decide +kernel
theorem dX6_undo_15 : decode cX6_undo 15 = .ok (.iconst 1, 1) := by decide +kernel
theorem dX6_undo_16 : decode cX6_undo 16 = .ok (.isub, 1) := by decide +kernel
theorem dX6_undo_17 : decode cX6_undo 17 = .ok (.putfield 50, 3) := by decide +kernel
theorem dX6_undo_20 : decode cX6_undo 20 = .ok (.iconst 0, 1) := by decide +kernel
theorem dX6_undo_21 : decode cX6_undo 21 = .ok (.istore_n 1, 1) := by decide +kernel
theorem dX6_undo_22 : decode cX6_undo 22 = .ok (.iload_n 1, 1) := by decide +kernel
theorem dX6_undo_23 : decode cX6_undo 23 = .ok (.sipush 130, 3) := by decide +kernel
theorem dX6_undo_26 : decode cX6_undo 26 = .ok (.if_icmp .ge 30, 3) := by decide +kernel
theorem dX6_undo_29 : decode cX6_undo 29 = .ok (.aload_n 0, 1) := by decide +kernel
theorem dX6_undo_30 : decode cX6_undo 30 = .ok (.getfield 7, 3) := by decide +kernel
theorem dX6_undo_33 : decode cX6_undo 33 = .ok (.iload_n 1, 1) := by decide +kernel
theorem dX6_undo_34 : decode cX6_undo 34 = .ok (.aload_n 0, 1) := by decide +kernel
theorem dX6_undo_35 : decode cX6_undo 35 = .ok (.getfield 13, 3) := by decide +kernel
theorem dX6_undo_38 : decode cX6_undo 38 = .ok (.aload_n 0, 1) := by decide +kernel
theorem dX6_undo_39 : decode cX6_undo 39 = .ok (.getfield 50, 3) := by decide +kernel
theorem dX6_undo_42 : decode cX6_undo 42 = .ok (.sipush 130, 3) := by decide +kernel
theorem dX6_undo_45 : decode cX6_undo 45 = .ok (.imul, 1) := by decide +kernel
theorem dX6_undo_46 : decode cX6_undo 46 = .ok (.iload_n 1, 1) := by decide +kernel
theorem dX6_undo_47 : decode cX6_undo 47 = .ok (.iadd, 1) := by decide +kernel
theorem dX6_undo_48 : decode cX6_undo 48 = .ok (.iaload, 1) := by decide +kernel
theorem dX6_undo_49 : decode cX6_undo 49 = .ok (.iastore, 1) := by decide +kernel
theorem dX6_undo_50 : decode cX6_undo 50 = .ok (.iinc 1 1, 3) := by decide +kernel
theorem dX6_undo_53 : decode cX6_undo 53 = .ok (.goto (-31), 3) := by decide +kernel
theorem dX6_undo_56 : decode cX6_undo 56 = .ok (.aload_n 0, 1) := by decide +kernel
theorem dX6_undo_57 : decode cX6_undo 57 = .ok (.getfield 50, 3) := by decide +kernel
theorem dX6_undo_60 : decode cX6_undo 60 = .ok (.ireturn, 1) := by decide +kernel
theorem dX6_save_0 : decode cX6_save 0 = .ok (.iload_n 1, 1) := by decide +kernel
theorem dX6_save_1 : decode cX6_save 1 = .ok (.iconst 0, 1) := by decide +kernel
theorem dX6_save_2 : decode cX6_save 2 = .ok (.iconst 1, 1) := by decide +kernel
theorem dX6_save_3 : decode cX6_save 3 = .ok (.invokestatic 46, 3) := by decide +kernel
theorem dX6_save_6 : decode cX6_save 6 = .ok (.ifCond .ne 6, 3) := by decide +kernel
theorem dX6_save_9 : decode cX6_save 9 = .ok (.bipush (-102), 2) := by decide +kernel
theorem dX6_save_11 : decode cX6_save 11 = .ok (.ireturn, 1) := by decide +kernel
theorem dX6_save_12 : decode cX6_save 12 = .ok (.iconst 0, 1) := by decide +kernel
theorem dX6_save_13 : decode cX6_save 13 = .ok (.istore_n 2, 1) := by decide +kernel
theorem dX6_save_14 : decode cX6_save 14 = .ok (.iload_n 2, 1) := by decide +kernel
theorem dX6_save_15 : decode cX6_save 15 = .ok (.sipush 130, 3) := by decide +kernel
theorem dX6_save_18 : decode cX6_save 18 = .ok (.if_icmp .ge 27, 3) := by decide +kernel
theorem dX6_save_21 : decode cX6_save 21 = .ok (.aload_n 0, 1) := by decide +kernel
theorem dX6_save_22 : decode cX6_save 22 = .ok (.getfield 16, 3) := by decide +kernel
theorem dX6_save_25 : decode cX6_save 25 = .ok (.sipush 130, 3) := by decide +kernel
theorem dX6_save_28 : decode cX6_save 28 = .ok (.iload_n 1, 1) := by decide +kernel
theorem dX6_save_29 : decode cX6_save 29 = .ok (.imul, 1) := by decide +kernel
theorem dX6_save_30 : decode cX6_save 30 = .ok (.iload_n 2, 1) := by decide +kernel
theorem dX6_save_31 : decode cX6_save 31 = .ok (.iadd, 1) := by decide +kernel
theorem dX6_save_32 : decode cX6_save 32 = .ok (.aload_n 0, 1) := by decide +kernel
theorem dX6_save_33 : decode cX6_save 33 = .ok (.getfield 7, 3) := by decide +kernel
theorem dX6_save_36 : decode cX6_save 36 = .ok (.iload_n 2, 1) := by decide +kernel
theorem dX6_save_37 : decode cX6_save 37 = .ok (.iaload, 1) := by decide +kernel
theorem dX6_save_38 : decode cX6_save 38 = .ok (.iastore, 1) := by decide +kernel
theorem dX6_save_39 : decode cX6_save 39 = .ok (.iinc 2 1, 3) := by decide +kernel
theorem dX6_save_42 : decode cX6_save 42 = .ok (.goto (-28), 3) := by decide +kernel
theorem dX6_save_45 : decode cX6_save 45 = .ok (.aload_n 0, 1) := by decide +kernel
theorem dX6_save_46 : decode cX6_save 46 = .ok (.getfield 19, 3) := by decide +kernel
theorem dX6_save_49 : decode cX6_save 49 = .ok (.iload_n 1, 1) := by decide +kernel
theorem dX6_save_50 : decode cX6_save 50 = .ok (.iconst 1, 1) := by decide +kernel
theorem dX6_save_51 : decode cX6_save 51 = .ok (.iastore, 1) := by decide +kernel
theorem dX6_save_52 : decode cX6_save 52 = .ok (.aload_n 0, 1) := by decide +kernel
theorem dX6_save_53 : decode cX6_save 53 = .ok (.getfield 7, 3) := by decide +kernel
theorem dX6_save_56 : decode cX6_save 56 = .ok (.bipush 33, 2) := by decide +kernel
theorem dX6_save_58 : decode cX6_save 58 = .ok (.iaload, 1) := by decide +kernel
theorem dX6_save_59 : decode cX6_save 59 = .ok (.ireturn, 1) := by decide +kernel
theorem dX6_restore_0 : decode cX6_restore 0 = .ok (.iload_n 1, 1) := by decide +kernel
theorem dX6_restore_1 : decode cX6_restore 1 = .ok (.iconst 0, 1) := by decide +kernel
theorem dX6_restore_2 : decode cX6_restore 2 = .ok (.iconst 1, 1) := by decide +kernel
theorem dX6_restore_3 : decode cX6_restore 3 = .ok (.invokestatic 46, 3) := by decide +kernel
theorem dX6_restore_6 : decode cX6_restore 6 = .ok (.ifCond .ne 6, 3) := by decide +kernel
theorem dX6_restore_9 : decode cX6_restore 9 = .ok (.bipush (-102), 2) := by decide +kernel
theorem dX6_restore_11 : decode cX6_restore 11 = .ok (.ireturn, 1) := by decide +kernel
theorem dX6_restore_12 : decode cX6_restore 12 = .ok (.aload_n 0, 1) := by decide +kernel
theorem dX6_restore_13 : decode cX6_restore 13 = .ok (.getfield 19, 3) := by decide +kernel
theorem dX6_restore_16 : decode cX6_restore 16 = .ok (.iload_n 1, 1) := by decide +kernel
theorem dX6_restore_17 : decode cX6_restore 17 = .ok (.iaload, 1) := by decide +kernel
theorem dX6_restore_18 : decode cX6_restore 18 = .ok (.ifCond .ne 6, 3) := by decide +kernel
theorem dX6_restore_21 : decode cX6_restore 21 = .ok (.bipush (-105), 2) := by decide +kernel
theorem dX6_restore_23 : decode cX6_restore 23 = .ok (.ireturn, 1) := by decide +kernel
theorem dX6_restore_24 : decode cX6_restore 24 = .ok (.aload_n 0, 1) := by decide +kernel
theorem dX6_restore_25 : decode cX6_restore 25 = .ok (.invokevirtual 54, 3) := by decide +kernel
theorem dX6_restore_28 : decode cX6_restore 28 = .ok (.iconst 0, 1) := by decide +kernel
theorem dX6_restore_29 : decode cX6_restore 29 = .ok (.istore_n 2, 1) := by decide +kernel
theorem dX6_restore_30 : decode cX6_restore 30 = .ok (.iload_n 2, 1) := by decide +kernel
theorem dX6_restore_31 : decode cX6_restore 31 = .ok (.sipush 130, 3) := by decide +kernel
theorem dX6_restore_34 : decode cX6_restore 34 = .ok (.if_icmp .ge 27, 3) := by decide +kernel
theorem dX6_restore_37 : decode cX6_restore 37 = .ok (.aload_n 0, 1) := by decide +kernel
theorem dX6_restore_38 : decode cX6_restore 38 = .ok (.getfield 7, 3) := by decide +kernel
theorem dX6_restore_41 : decode cX6_restore 41 = .ok (.iload_n 2, 1) := by decide +kernel
theorem dX6_restore_42 : decode cX6_restore 42 = .ok (.aload_n 0, 1) := by decide +kernel
theorem dX6_restore_43 : decode cX6_restore 43 = .ok (.getfield 16, 3) := by decide +kernel
theorem dX6_restore_46 : decode cX6_restore 46 = .ok (.sipush 130, 3) := by decide +kernel
theorem dX6_restore_49 : decode cX6_restore 49 = .ok (.iload_n 1, 1) := by decide +kernel
theorem dX6_restore_50 : decode cX6_restore 50 = .ok (.imul, 1) := by decide +kernel
theorem dX6_restore_51 : decode cX6_restore 51 = .ok (.iload_n 2, 1) := by decide +kernel
theorem dX6_restore_52 : decode cX6_restore 52 = .ok (.iadd, 1) := by decide +kernel
theorem dX6_restore_53 : decode cX6_restore 53 = .ok (.iaload, 1) := by decide +kernel
theorem dX6_restore_54 : decode cX6_restore 54 = .ok (.iastore, 1) := by decide +kernel
theorem dX6_restore_55 : decode cX6_restore 55 = .ok (.iinc 2 1, 3) := by decide +kernel
theorem dX6_restore_58 : decode cX6_restore 58 = .ok (.goto (-28), 3) := by decide +kernel
theorem dX6_restore_61 : decode cX6_restore 61 = .ok (.aload_n 0, 1) := by decide +kernel
theorem dX6_restore_62 : decode cX6_restore 62 = .ok (.getfield 7, 3) := by decide +kernel
theorem dX6_restore_65 : decode cX6_restore 65 = .ok (.bipush 33, 2) := by decide +kernel
theorem dX6_restore_67 : decode cX6_restore 67 = .ok (.iaload, 1) := by decide +kernel
theorem dX6_restore_68 : decode cX6_restore 68 = .ok (.ireturn, 1) := by decide +kernel
theorem dX6_readyOf_0 : decode cX6_readyOf 0 = .ok (.aload_n 0, 1) := by decide +kernel
theorem dX6_readyOf_1 : decode cX6_readyOf 1 = .ok (.getfield 7, 3) := by decide +kernel
theorem dX6_readyOf_4 : decode cX6_readyOf 4 = .ok (.iconst 5, 1) := by decide +kernel
theorem dX6_readyOf_5 : decode cX6_readyOf 5 = .ok (.iload_n 1, 1) := by decide +kernel
theorem dX6_readyOf_6 : decode cX6_readyOf 6 = .ok (.iadd, 1) := by decide +kernel
theorem dX6_readyOf_7 : decode cX6_readyOf 7 = .ok (.iaload, 1) := by decide +kernel
theorem dX6_readyOf_8 : decode cX6_readyOf 8 = .ok (.aload_n 0, 1) := by decide +kernel
theorem dX6_readyOf_9 : decode cX6_readyOf 9 = .ok (.getfield 7, 3) := by decide +kernel
theorem dX6_readyOf_12 : decode cX6_readyOf 12 = .ok (.bipush 11, 2) := by decide +kernel
theorem dX6_readyOf_14 : decode cX6_readyOf 14 = .ok (.iload_n 1, 1) := by decide +kernel
theorem dX6_readyOf_15 : decode cX6_readyOf 15 = .ok (.iadd, 1) := by decide +kernel
theorem dX6_readyOf_16 : decode cX6_readyOf 16 = .ok (.iaload, 1) := by decide +kernel
theorem dX6_readyOf_17 : decode cX6_readyOf 17 = .ok (.iadd, 1) := by decide +kernel
theorem dX6_readyOf_18 : decode cX6_readyOf 18 = .ok (.aload_n 0, 1) := by decide +kernel
theorem dX6_readyOf_19 : decode cX6_readyOf 19 = .ok (.getfield 7, 3) := by decide +kernel
theorem dX6_readyOf_22 : decode cX6_readyOf 22 = .ok (.iconst 0, 1) := by decide +kernel
theorem dX6_readyOf_23 : decode cX6_readyOf 23 = .ok (.iaload, 1) := by decide +kernel
theorem dX6_readyOf_24 : decode cX6_readyOf 24 = .ok (.iadd, 1) := by decide +kernel
theorem dX6_readyOf_25 : decode cX6_readyOf 25 = .ok (.ireturn, 1) := by decide +kernel
theorem dX6_ready_0 : decode cX6_ready 0 = .ok (.aload_n 0, 1) := by decide +kernel
theorem dX6_ready_1 : decode cX6_ready 1 = .ok (.aload_n 0, 1) := by decide +kernel
theorem dX6_ready_2 : decode cX6_ready 2 = .ok (.iload_n 1, 1) := by decide +kernel
theorem dX6_ready_3 : decode cX6_ready 3 = .ok (.iconst 0, 1) := by decide +kernel
theorem dX6_ready_4 : decode cX6_ready 4 = .ok (.invokevirtual 57, 3) := by decide +kernel
theorem dX6_ready_7 : decode cX6_ready 7 = .ok (.invokevirtual 61, 3) := by decide +kernel
theorem dX6_ready_10 : decode cX6_ready 10 = .ok (.ireturn, 1) := by decide +kernel
theorem dX6_ones_0 : decode cX6_ones 0 = .ok (.iconst 0, 1) := by decide +kernel
theorem dX6_ones_1 : decode cX6_ones 1 = .ok (.istore_n 1, 1) := by decide +kernel
theorem dX6_ones_2 : decode cX6_ones 2 = .ok (.iconst 0, 1) := by decide +kernel
theorem dX6_ones_3 : decode cX6_ones 3 = .ok (.istore_n 2, 1) := by decide +kernel
theorem dX6_ones_4 : decode cX6_ones 4 = .ok (.iload_n 2, 1) := by decide +kernel
theorem dX6_ones_5 : decode cX6_ones 5 = .ok (.bipush 6, 2) := by decide +kernel
theorem dX6_ones_7 : decode cX6_ones 7 = .ok (.if_icmp .ge 17, 3) := by decide +kernel
theorem dX6_ones_10 : decode cX6_ones 10 = .ok (.iload_n 1, 1) := by decide +kernel
theorem dX6_ones_11 : decode cX6_ones 11 = .ok (.iload_n 0, 1) := by decide +kernel
theorem dX6_ones_12 : decode cX6_ones 12 = .ok (.iload_n 2, 1) := by decide +kernel
theorem dX6_ones_13 : decode cX6_ones 13 = .ok (.ishr, 1) := by decide +kernel
theorem dX6_ones_14 : decode cX6_ones 14 = .ok (.iconst 1, 1) := by decide +kernel
theorem dX6_ones_15 : decode cX6_ones 15 = .ok (.iand, 1) := by decide +kernel
theorem dX6_ones_16 : decode cX6_ones 16 = .ok (.iadd, 1) := by decide +kernel
theorem dX6_ones_17 : decode cX6_ones 17 = .ok (.istore_n 1, 1) := by decide +kernel
theorem dX6_ones_18 : decode cX6_ones 18 = .ok (.iinc 2 1, 3) := by decide +kernel
theorem dX6_ones_21 : decode cX6_ones 21 = .ok (.goto (-17), 3) := by decide +kernel
theorem dX6_ones_24 : decode cX6_ones 24 = .ok (.iload_n 1, 1) := by decide +kernel
theorem dX6_ones_25 : decode cX6_ones 25 = .ok (.ireturn, 1) := by decide +kernel
theorem dX6_canTake_0 : decode cX6_canTake 0 = .ok (.aload_n 0, 1) := by decide +kernel
theorem dX6_canTake_1 : decode cX6_canTake 1 = .ok (.getfield 7, 3) := by decide +kernel
theorem dX6_canTake_4 : decode cX6_canTake 4 = .ok (.bipush 17, 2) := by decide +kernel
theorem dX6_canTake_6 : decode cX6_canTake 6 = .ok (.iload_n 1, 1) := by decide +kernel
theorem dX6_canTake_7 : decode cX6_canTake 7 = .ok (.iadd, 1) := by decide +kernel
theorem dX6_canTake_8 : decode cX6_canTake 8 = .ok (.iaload, 1) := by decide +kernel
theorem dX6_canTake_9 : decode cX6_canTake 9 = .ok (.aload_n 0, 1) := by decide +kernel
theorem dX6_canTake_10 : decode cX6_canTake 10 = .ok (.iload_n 2, 1) := by decide +kernel
theorem dX6_canTake_11 : decode cX6_canTake 11 = .ok (.invokevirtual 65, 3) := by decide +kernel
theorem dX6_canTake_14 : decode cX6_canTake 14 = .ok (.isub, 1) := by decide +kernel
theorem dX6_canTake_15 : decode cX6_canTake 15 = .ok (.istore_n 3, 1) := by decide +kernel
theorem dX6_canTake_16 : decode cX6_canTake 16 = .ok (.aload_n 0, 1) := by decide +kernel
theorem dX6_canTake_17 : decode cX6_canTake 17 = .ok (.getfield 37, 3) := by decide +kernel
theorem dX6_canTake_20 : decode cX6_canTake 20 = .ok (.iload_n 1, 1) := by decide +kernel
theorem dX6_canTake_21 : decode cX6_canTake 21 = .ok (.iaload, 1) := by decide +kernel
theorem dX6_canTake_22 : decode cX6_canTake 22 = .ok (.iconst 1, 1) := by decide +kernel
theorem dX6_canTake_23 : decode cX6_canTake 23 = .ok (.aload_n 0, 1) := by decide +kernel
theorem dX6_canTake_24 : decode cX6_canTake 24 = .ok (.iload_n 2, 1) := by decide +kernel
theorem dX6_canTake_25 : decode cX6_canTake 25 = .ok (.iconst 1, 1) := by decide +kernel
theorem dX6_canTake_26 : decode cX6_canTake 26 = .ok (.invokevirtual 57, 3) := by decide +kernel
theorem dX6_canTake_29 : decode cX6_canTake 29 = .ok (.ishl, 1) := by decide +kernel
theorem dX6_canTake_30 : decode cX6_canTake 30 = .ok (.ior, 1) := by decide +kernel
theorem dX6_canTake_31 : decode cX6_canTake 31 = .ok (.istore 4, 2) := by decide +kernel
theorem dX6_canTake_33 : decode cX6_canTake 33 = .ok (.iload_n 3, 1) := by decide +kernel
theorem dX6_canTake_34 : decode cX6_canTake 34 = .ok (.iconst 0, 1) := by decide +kernel
theorem dX6_canTake_35 : decode cX6_canTake 35 = .ok (.aload_n 0, 1) := by decide +kernel
theorem dX6_canTake_36 : decode cX6_canTake 36 = .ok (.getfield 7, 3) := by decide +kernel
theorem dX6_canTake_39 : decode cX6_canTake 39 = .ok (.iconst 1, 1) := by decide +kernel
theorem dX6_canTake_40 : decode cX6_canTake 40 = .ok (.iaload, 1) := by decide +kernel
theorem dX6_canTake_41 : decode cX6_canTake 41 = .ok (.invokestatic 46, 3) := by decide +kernel
theorem dX6_canTake_44 : decode cX6_canTake 44 = .ok (.ifCond .eq 36, 3) := by decide +kernel
theorem dX6_canTake_47 : decode cX6_canTake 47 = .ok (.aload_n 0, 1) := by decide +kernel
theorem dX6_canTake_48 : decode cX6_canTake 48 = .ok (.getfield 34, 3) := by decide +kernel
theorem dX6_canTake_51 : decode cX6_canTake 51 = .ok (.iload_n 1, 1) := by decide +kernel
theorem dX6_canTake_52 : decode cX6_canTake 52 = .ok (.iaload, 1) := by decide +kernel
theorem dX6_canTake_53 : decode cX6_canTake 53 = .ok (.aload_n 0, 1) := by decide +kernel
theorem dX6_canTake_54 : decode cX6_canTake 54 = .ok (.iload_n 2, 1) := by decide +kernel
theorem dX6_canTake_55 : decode cX6_canTake 55 = .ok (.iconst 3, 1) := by decide +kernel
theorem dX6_canTake_56 : decode cX6_canTake 56 = .ok (.invokevirtual 57, 3) := by decide +kernel
theorem dX6_canTake_59 : decode cX6_canTake 59 = .ok (.if_icmp .lt 21, 3) := by decide +kernel
theorem dX6_canTake_62 : decode cX6_canTake 62 = .ok (.iload 4, 2) := by decide +kernel
theorem dX6_canTake_64 : decode cX6_canTake 64 = .ok (.invokestatic 68, 3) := by decide +kernel
theorem dX6_canTake_67 : decode cX6_canTake 67 = .ok (.aload_n 0, 1) := by decide +kernel
theorem dX6_canTake_68 : decode cX6_canTake 68 = .ok (.getfield 7, 3) := by decide +kernel
theorem dX6_canTake_71 : decode cX6_canTake 71 = .ok (.iconst 2, 1) := by decide +kernel
theorem dX6_canTake_72 : decode cX6_canTake 72 = .ok (.iaload, 1) := by decide +kernel
theorem dX6_canTake_73 : decode cX6_canTake 73 = .ok (.if_icmp .gt 7, 3) := by decide +kernel
theorem dX6_canTake_76 : decode cX6_canTake 76 = .ok (.iconst 1, 1) := by decide +kernel
theorem dX6_canTake_77 : decode cX6_canTake 77 = .ok (.goto 4, 3) := by decide +kernel
theorem dX6_canTake_80 : decode cX6_canTake 80 = .ok (.iconst 0, 1) := by decide +kernel
theorem dX6_canTake_81 : decode cX6_canTake 81 = .ok (.ireturn, 1) := by decide +kernel
theorem dX6_nextRider_0 : decode cX6_nextRider 0 = .ok (.bipush (-106), 2) := by decide +kernel
theorem dX6_nextRider_2 : decode cX6_nextRider 2 = .ok (.istore_n 1, 1) := by decide +kernel
theorem dX6_nextRider_3 : decode cX6_nextRider 3 = .ok (.iconst 0, 1) := by decide +kernel
theorem dX6_nextRider_4 : decode cX6_nextRider 4 = .ok (.istore_n 2, 1) := by decide +kernel
theorem dX6_nextRider_5 : decode cX6_nextRider 5 = .ok (.iload_n 2, 1) := by decide +kernel
theorem dX6_nextRider_6 : decode cX6_nextRider 6 = .ok (.aload_n 0, 1) := by decide +kernel
theorem dX6_nextRider_7 : decode cX6_nextRider 7 = .ok (.getfield 7, 3) := by decide +kernel
theorem dX6_nextRider_10 : decode cX6_nextRider 10 = .ok (.bipush 33, 2) := by decide +kernel
theorem dX6_nextRider_12 : decode cX6_nextRider 12 = .ok (.iaload, 1) := by decide +kernel
theorem dX6_nextRider_13 : decode cX6_nextRider 13 = .ok (.if_icmp .ge 39, 3) := by decide +kernel
theorem dX6_nextRider_16 : decode cX6_nextRider 16 = .ok (.aload_n 0, 1) := by decide +kernel
theorem dX6_nextRider_17 : decode cX6_nextRider 17 = .ok (.getfield 31, 3) := by decide +kernel
theorem dX6_nextRider_20 : decode cX6_nextRider 20 = .ok (.iload_n 2, 1) := by decide +kernel
theorem dX6_nextRider_21 : decode cX6_nextRider 21 = .ok (.iaload, 1) := by decide +kernel
theorem dX6_nextRider_22 : decode cX6_nextRider 22 = .ok (.ifCond .ne 24, 3) := by decide +kernel
theorem dX6_nextRider_25 : decode cX6_nextRider 25 = .ok (.iload_n 1, 1) := by decide +kernel
theorem dX6_nextRider_26 : decode cX6_nextRider 26 = .ok (.bipush (-106), 2) := by decide +kernel
theorem dX6_nextRider_28 : decode cX6_nextRider 28 = .ok (.if_icmp .eq 16, 3) := by decide +kernel
theorem dX6_nextRider_31 : decode cX6_nextRider 31 = .ok (.aload_n 0, 1) := by decide +kernel
theorem dX6_nextRider_32 : decode cX6_nextRider 32 = .ok (.iload_n 2, 1) := by decide +kernel
theorem dX6_nextRider_33 : decode cX6_nextRider 33 = .ok (.invokevirtual 65, 3) := by decide +kernel
theorem dX6_nextRider_36 : decode cX6_nextRider 36 = .ok (.aload_n 0, 1) := by decide +kernel
theorem dX6_nextRider_37 : decode cX6_nextRider 37 = .ok (.iload_n 1, 1) := by decide +kernel
theorem dX6_nextRider_38 : decode cX6_nextRider 38 = .ok (.invokevirtual 65, 3) := by decide +kernel
theorem dX6_nextRider_41 : decode cX6_nextRider 41 = .ok (.if_icmp .ge 5, 3) := by decide +kernel
theorem dX6_nextRider_44 : decode cX6_nextRider 44 = .ok (.iload_n 2, 1) := by decide +kernel
theorem dX6_nextRider_45 : decode cX6_nextRider 45 = .ok (.istore_n 1, 1) := by decide +kernel
theorem dX6_nextRider_46 : decode cX6_nextRider 46 = .ok (.iinc 2 1, 3) := by decide +kernel
theorem dX6_nextRider_49 : decode cX6_nextRider 49 = .ok (.goto (-44), 3) := by decide +kernel
theorem dX6_nextRider_52 : decode cX6_nextRider 52 = .ok (.iload_n 1, 1) := by decide +kernel
theorem dX6_nextRider_53 : decode cX6_nextRider 53 = .ok (.ireturn, 1) := by decide +kernel
theorem dX6_firstVan_0 : decode cX6_firstVan 0 = .ok (.bipush (-106), 2) := by decide +kernel
theorem dX6_firstVan_2 : decode cX6_firstVan 2 = .ok (.istore_n 2, 1) := by decide +kernel
theorem dX6_firstVan_3 : decode cX6_firstVan 3 = .ok (.iconst 0, 1) := by decide +kernel
theorem dX6_firstVan_4 : decode cX6_firstVan 4 = .ok (.istore_n 3, 1) := by decide +kernel
theorem dX6_firstVan_5 : decode cX6_firstVan 5 = .ok (.iload_n 3, 1) := by decide +kernel
theorem dX6_firstVan_6 : decode cX6_firstVan 6 = .ok (.bipush 8, 2) := by decide +kernel
theorem dX6_firstVan_8 : decode cX6_firstVan 8 = .ok (.if_icmp .ge 47, 3) := by decide +kernel
theorem dX6_firstVan_11 : decode cX6_firstVan 11 = .ok (.aload_n 0, 1) := by decide +kernel
theorem dX6_firstVan_12 : decode cX6_firstVan 12 = .ok (.iload_n 3, 1) := by decide +kernel
theorem dX6_firstVan_13 : decode cX6_firstVan 13 = .ok (.iload_n 1, 1) := by decide +kernel
theorem dX6_firstVan_14 : decode cX6_firstVan 14 = .ok (.invokevirtual 71, 3) := by decide +kernel
theorem dX6_firstVan_17 : decode cX6_firstVan 17 = .ok (.ifCond .eq 32, 3) := by decide +kernel
theorem dX6_firstVan_20 : decode cX6_firstVan 20 = .ok (.iload_n 2, 1) := by decide +kernel
theorem dX6_firstVan_21 : decode cX6_firstVan 21 = .ok (.bipush (-106), 2) := by decide +kernel
theorem dX6_firstVan_23 : decode cX6_firstVan 23 = .ok (.if_icmp .eq 24, 3) := by decide +kernel
theorem dX6_firstVan_26 : decode cX6_firstVan 26 = .ok (.aload_n 0, 1) := by decide +kernel
theorem dX6_firstVan_27 : decode cX6_firstVan 27 = .ok (.getfield 7, 3) := by decide +kernel
theorem dX6_firstVan_30 : decode cX6_firstVan 30 = .ok (.bipush 17, 2) := by decide +kernel
theorem dX6_firstVan_32 : decode cX6_firstVan 32 = .ok (.iload_n 3, 1) := by decide +kernel
theorem dX6_firstVan_33 : decode cX6_firstVan 33 = .ok (.iadd, 1) := by decide +kernel
theorem dX6_firstVan_34 : decode cX6_firstVan 34 = .ok (.iaload, 1) := by decide +kernel
theorem dX6_firstVan_35 : decode cX6_firstVan 35 = .ok (.aload_n 0, 1) := by decide +kernel
theorem dX6_firstVan_36 : decode cX6_firstVan 36 = .ok (.getfield 7, 3) := by decide +kernel
theorem dX6_firstVan_39 : decode cX6_firstVan 39 = .ok (.bipush 17, 2) := by decide +kernel
theorem dX6_firstVan_41 : decode cX6_firstVan 41 = .ok (.iload_n 2, 1) := by decide +kernel
theorem dX6_firstVan_42 : decode cX6_firstVan 42 = .ok (.iadd, 1) := by decide +kernel
theorem dX6_firstVan_43 : decode cX6_firstVan 43 = .ok (.iaload, 1) := by decide +kernel
theorem dX6_firstVan_44 : decode cX6_firstVan 44 = .ok (.if_icmp .ge 5, 3) := by decide +kernel
theorem dX6_firstVan_47 : decode cX6_firstVan 47 = .ok (.iload_n 3, 1) := by decide +kernel
theorem dX6_firstVan_48 : decode cX6_firstVan 48 = .ok (.istore_n 2, 1) := by decide +kernel
theorem dX6_firstVan_49 : decode cX6_firstVan 49 = .ok (.iinc 3 1, 3) := by decide +kernel
theorem dX6_firstVan_52 : decode cX6_firstVan 52 = .ok (.goto (-47), 3) := by decide +kernel
theorem dX6_firstVan_55 : decode cX6_firstVan 55 = .ok (.iload_n 2, 1) := by decide +kernel
theorem dX6_firstVan_56 : decode cX6_firstVan 56 = .ok (.ireturn, 1) := by decide +kernel
theorem dX6_lay_0 : decode cX6_lay 0 = .ok (.iconst 0, 1) := by decide +kernel
theorem dX6_lay_1 : decode cX6_lay 1 = .ok (.istore_n 1, 1) := by decide +kernel
theorem dX6_lay_2 : decode cX6_lay 2 = .ok (.iload_n 1, 1) := by decide +kernel
theorem dX6_lay_3 : decode cX6_lay 3 = .ok (.bipush 8, 2) := by decide +kernel
theorem dX6_lay_5 : decode cX6_lay 5 = .ok (.if_icmp .ge 31, 3) := by decide +kernel
theorem dX6_lay_8 : decode cX6_lay 8 = .ok (.aload_n 0, 1) := by decide +kernel
theorem dX6_lay_9 : decode cX6_lay 9 = .ok (.getfield 34, 3) := by decide +kernel
theorem dX6_lay_12 : decode cX6_lay 12 = .ok (.iload_n 1, 1) := by decide +kernel
theorem dX6_lay_13 : decode cX6_lay 13 = .ok (.aload_n 0, 1) := by decide +kernel
theorem dX6_lay_14 : decode cX6_lay 14 = .ok (.getfield 7, 3) := by decide +kernel
theorem dX6_lay_17 : decode cX6_lay 17 = .ok (.bipush 25, 2) := by decide +kernel
theorem dX6_lay_19 : decode cX6_lay 19 = .ok (.iload_n 1, 1) := by decide +kernel
theorem dX6_lay_20 : decode cX6_lay 20 = .ok (.iadd, 1) := by decide +kernel
theorem dX6_lay_21 : decode cX6_lay 21 = .ok (.iaload, 1) := by decide +kernel
theorem dX6_lay_22 : decode cX6_lay 22 = .ok (.iastore, 1) := by decide +kernel
theorem dX6_lay_23 : decode cX6_lay 23 = .ok (.aload_n 0, 1) := by decide +kernel
theorem dX6_lay_24 : decode cX6_lay 24 = .ok (.getfield 37, 3) := by decide +kernel
theorem dX6_lay_27 : decode cX6_lay 27 = .ok (.iload_n 1, 1) := by decide +kernel
theorem dX6_lay_28 : decode cX6_lay 28 = .ok (.iconst 0, 1) := by decide +kernel
theorem dX6_lay_29 : decode cX6_lay 29 = .ok (.iastore, 1) := by decide +kernel
theorem dX6_lay_30 : decode cX6_lay 30 = .ok (.iinc 1 1, 3) := by decide +kernel
theorem dX6_lay_33 : decode cX6_lay 33 = .ok (.goto (-31), 3) := by decide +kernel
theorem dX6_lay_36 : decode cX6_lay 36 = .ok (.iconst 0, 1) := by decide +kernel
theorem dX6_lay_37 : decode cX6_lay 37 = .ok (.istore_n 1, 1) := by decide +kernel
theorem dX6_lay_38 : decode cX6_lay 38 = .ok (.iload_n 1, 1) := by decide +kernel
theorem dX6_lay_39 : decode cX6_lay 39 = .ok (.bipush 24, 2) := by decide +kernel
theorem dX6_lay_41 : decode cX6_lay 41 = .ok (.if_icmp .ge 16, 3) := by decide +kernel
theorem dX6_lay_44 : decode cX6_lay 44 = .ok (.aload_n 0, 1) := by decide +kernel
theorem dX6_lay_45 : decode cX6_lay 45 = .ok (.getfield 31, 3) := by decide +kernel
theorem dX6_lay_48 : decode cX6_lay 48 = .ok (.iload_n 1, 1) := by decide +kernel
theorem dX6_lay_49 : decode cX6_lay 49 = .ok (.iconst 0, 1) := by decide +kernel
theorem dX6_lay_50 : decode cX6_lay 50 = .ok (.iastore, 1) := by decide +kernel
theorem dX6_lay_51 : decode cX6_lay 51 = .ok (.iinc 1 1, 3) := by decide +kernel
theorem dX6_lay_54 : decode cX6_lay 54 = .ok (.goto (-16), 3) := by decide +kernel
theorem dX6_lay_57 : decode cX6_lay 57 = .ok (.iconst 0, 1) := by decide +kernel
theorem dX6_lay_58 : decode cX6_lay 58 = .ok (.istore_n 1, 1) := by decide +kernel
theorem dX6_lay_59 : decode cX6_lay 59 = .ok (.iload_n 1, 1) := by decide +kernel
theorem dX6_lay_60 : decode cX6_lay 60 = .ok (.aload_n 0, 1) := by decide +kernel
theorem dX6_lay_61 : decode cX6_lay 61 = .ok (.getfield 7, 3) := by decide +kernel
theorem dX6_lay_64 : decode cX6_lay 64 = .ok (.bipush 33, 2) := by decide +kernel
theorem dX6_lay_66 : decode cX6_lay 66 = .ok (.iaload, 1) := by decide +kernel
theorem dX6_lay_67 : decode cX6_lay 67 = .ok (.if_icmp .ge 72, 3) := by decide +kernel
theorem dX6_lay_70 : decode cX6_lay 70 = .ok (.aload_n 0, 1) := by decide +kernel
theorem dX6_lay_71 : decode cX6_lay 71 = .ok (.invokevirtual 75, 3) := by decide +kernel
theorem dX6_lay_74 : decode cX6_lay 74 = .ok (.istore_n 2, 1) := by decide +kernel
theorem dX6_lay_75 : decode cX6_lay 75 = .ok (.aload_n 0, 1) := by decide +kernel
theorem dX6_lay_76 : decode cX6_lay 76 = .ok (.iload_n 2, 1) := by decide +kernel
theorem dX6_lay_77 : decode cX6_lay 77 = .ok (.invokevirtual 79, 3) := by decide +kernel
theorem dX6_lay_80 : decode cX6_lay 80 = .ok (.istore_n 3, 1) := by decide +kernel
theorem dX6_lay_81 : decode cX6_lay 81 = .ok (.aload_n 0, 1) := by decide +kernel
theorem dX6_lay_82 : decode cX6_lay 82 = .ok (.getfield 31, 3) := by decide +kernel
theorem dX6_lay_85 : decode cX6_lay 85 = .ok (.iload_n 2, 1) := by decide +kernel
theorem dX6_lay_86 : decode cX6_lay 86 = .ok (.iconst 1, 1) := by decide +kernel
theorem dX6_lay_87 : decode cX6_lay 87 = .ok (.iastore, 1) := by decide +kernel
theorem dX6_lay_88 : decode cX6_lay 88 = .ok (.aload_n 0, 1) := by decide +kernel
theorem dX6_lay_89 : decode cX6_lay 89 = .ok (.getfield 28, 3) := by decide +kernel
theorem dX6_lay_92 : decode cX6_lay 92 = .ok (.iload_n 2, 1) := by decide +kernel
theorem dX6_lay_93 : decode cX6_lay 93 = .ok (.iload_n 3, 1) := by decide +kernel
theorem dX6_lay_94 : decode cX6_lay 94 = .ok (.iastore, 1) := by decide +kernel
theorem dX6_lay_95 : decode cX6_lay 95 = .ok (.iload_n 3, 1) := by decide +kernel
theorem dX6_lay_96 : decode cX6_lay 96 = .ok (.bipush (-106), 2) := by decide +kernel
theorem dX6_lay_98 : decode cX6_lay 98 = .ok (.if_icmp .eq 35, 3) := by decide +kernel
theorem dX6_lay_101 : decode cX6_lay 101 = .ok (.aload_n 0, 1) := by decide +kernel
theorem dX6_lay_102 : decode cX6_lay 102 = .ok (.getfield 34, 3) := by decide +kernel
theorem dX6_lay_105 : decode cX6_lay 105 = .ok (.iload_n 3, 1) := by decide +kernel
theorem dX6_lay_106 : decode cX6_lay 106 = .ok (.dup2, 1) := by decide +kernel
theorem dX6_lay_107 : decode cX6_lay 107 = .ok (.iaload, 1) := by decide +kernel
theorem dX6_lay_108 : decode cX6_lay 108 = .ok (.aload_n 0, 1) := by decide +kernel
theorem dX6_lay_109 : decode cX6_lay 109 = .ok (.iload_n 2, 1) := by decide +kernel
theorem dX6_lay_110 : decode cX6_lay 110 = .ok (.iconst 3, 1) := by decide +kernel
theorem dX6_lay_111 : decode cX6_lay 111 = .ok (.invokevirtual 57, 3) := by decide +kernel
theorem dX6_lay_114 : decode cX6_lay 114 = .ok (.isub, 1) := by decide +kernel
theorem dX6_lay_115 : decode cX6_lay 115 = .ok (.iastore, 1) := by decide +kernel
theorem dX6_lay_116 : decode cX6_lay 116 = .ok (.aload_n 0, 1) := by decide +kernel
theorem dX6_lay_117 : decode cX6_lay 117 = .ok (.getfield 37, 3) := by decide +kernel
theorem dX6_lay_120 : decode cX6_lay 120 = .ok (.iload_n 3, 1) := by decide +kernel
theorem dX6_lay_121 : decode cX6_lay 121 = .ok (.dup2, 1) := by decide +kernel
theorem dX6_lay_122 : decode cX6_lay 122 = .ok (.iaload, 1) := by decide +kernel
theorem dX6_lay_123 : decode cX6_lay 123 = .ok (.iconst 1, 1) := by decide +kernel
theorem dX6_lay_124 : decode cX6_lay 124 = .ok (.aload_n 0, 1) := by decide +kernel
theorem dX6_lay_125 : decode cX6_lay 125 = .ok (.iload_n 2, 1) := by decide +kernel
theorem dX6_lay_126 : decode cX6_lay 126 = .ok (.iconst 1, 1) := by decide +kernel
theorem dX6_lay_127 : decode cX6_lay 127 = .ok (.invokevirtual 57, 3) := by decide +kernel
theorem dX6_lay_130 : decode cX6_lay 130 = .ok (.ishl, 1) := by decide +kernel
theorem dX6_lay_131 : decode cX6_lay 131 = .ok (.ior, 1) := by decide +kernel
theorem dX6_lay_132 : decode cX6_lay 132 = .ok (.iastore, 1) := by decide +kernel
theorem dX6_lay_133 : decode cX6_lay 133 = .ok (.iinc 1 1, 3) := by decide +kernel
theorem dX6_lay_136 : decode cX6_lay 136 = .ok (.goto (-77), 3) := by decide +kernel
theorem dX6_lay_139 : decode cX6_lay 139 = .ok (.return_, 1) := by decide +kernel
theorem dX6_keyOf_0 : decode cX6_keyOf 0 = .ok (.bipush 100, 2) := by decide +kernel
theorem dX6_keyOf_2 : decode cX6_keyOf 2 = .ok (.aload_n 0, 1) := by decide +kernel
theorem dX6_keyOf_3 : decode cX6_keyOf 3 = .ok (.iload_n 1, 1) := by decide +kernel
theorem dX6_keyOf_4 : decode cX6_keyOf 4 = .ok (.iconst 1, 1) := by decide +kernel
theorem dX6_keyOf_5 : decode cX6_keyOf 5 = .ok (.invokevirtual 57, 3) := by decide +kernel
theorem dX6_keyOf_8 : decode cX6_keyOf 8 = .ok (.imul, 1) := by decide +kernel
theorem dX6_keyOf_9 : decode cX6_keyOf 9 = .ok (.aload_n 0, 1) := by decide +kernel
theorem dX6_keyOf_10 : decode cX6_keyOf 10 = .ok (.iload_n 1, 1) := by decide +kernel
theorem dX6_keyOf_11 : decode cX6_keyOf 11 = .ok (.iconst 2, 1) := by decide +kernel
theorem dX6_keyOf_12 : decode cX6_keyOf 12 = .ok (.invokevirtual 57, 3) := by decide +kernel
theorem dX6_keyOf_15 : decode cX6_keyOf 15 = .ok (.iadd, 1) := by decide +kernel
theorem dX6_keyOf_16 : decode cX6_keyOf 16 = .ok (.ireturn, 1) := by decide +kernel
theorem dX6_layStops_0 : decode cX6_layStops 0 = .ok (.aload_n 0, 1) := by decide +kernel
theorem dX6_layStops_1 : decode cX6_layStops 1 = .ok (.iconst 0, 1) := by decide +kernel
theorem dX6_layStops_2 : decode cX6_layStops 2 = .ok (.putfield 82, 3) := by decide +kernel
theorem dX6_layStops_5 : decode cX6_layStops 5 = .ok (.iconst (-1), 1) := by decide +kernel
theorem dX6_layStops_6 : decode cX6_layStops 6 = .ok (.istore_n 2, 1) := by decide +kernel
theorem dX6_layStops_7 : decode cX6_layStops 7 = .ok (.iconst 1, 1) := by decide +kernel
theorem dX6_layStops_8 : decode cX6_layStops 8 = .ok (.istore_n 3, 1) := by decide +kernel
theorem dX6_layStops_9 : decode cX6_layStops 9 = .ok (.iload_n 3, 1) := by decide +kernel
theorem dX6_layStops_10 : decode cX6_layStops 10 = .ok (.ifCond .eq 223, 3) := by decide +kernel
theorem dX6_layStops_13 : decode cX6_layStops 13 = .ok (.sipush 1000, 3) := by decide +kernel
theorem dX6_layStops_16 : decode cX6_layStops 16 = .ok (.istore 4, 2) := by decide +kernel
theorem dX6_layStops_18 : decode cX6_layStops 18 = .ok (.iconst 0, 1) := by decide +kernel
theorem dX6_layStops_19 : decode cX6_layStops 19 = .ok (.istore 5, 2) := by decide +kernel
theorem dX6_layStops_21 : decode cX6_layStops 21 = .ok (.iload 5, 2) := by decide +kernel
theorem dX6_layStops_23 : decode cX6_layStops 23 = .ok (.aload_n 0, 1) := by decide +kernel
theorem dX6_layStops_24 : decode cX6_layStops 24 = .ok (.getfield 7, 3) := by decide +kernel
theorem dX6_layStops_27 : decode cX6_layStops 27 = .ok (.bipush 33, 2) := by decide +kernel
theorem dX6_layStops_29 : decode cX6_layStops 29 = .ok (.iaload, 1) := by decide +kernel
theorem dX6_layStops_30 : decode cX6_layStops 30 = .ok (.if_icmp .ge 66, 3) := by decide +kernel
theorem dX6_layStops_33 : decode cX6_layStops 33 = .ok (.aload_n 0, 1) := by decide +kernel
theorem dX6_layStops_34 : decode cX6_layStops 34 = .ok (.getfield 28, 3) := by decide +kernel
theorem dX6_layStops_37 : decode cX6_layStops 37 = .ok (.iload 5, 2) := by decide +kernel
theorem dX6_layStops_39 : decode cX6_layStops 39 = .ok (.iaload, 1) := by decide +kernel
theorem dX6_layStops_40 : decode cX6_layStops 40 = .ok (.iload_n 1, 1) := by decide +kernel
theorem dX6_layStops_41 : decode cX6_layStops 41 = .ok (.if_icmp .ne 28, 3) := by decide +kernel
theorem dX6_layStops_44 : decode cX6_layStops 44 = .ok (.aload_n 0, 1) := by decide +kernel
theorem dX6_layStops_45 : decode cX6_layStops 45 = .ok (.iload 5, 2) := by decide +kernel
theorem dX6_layStops_47 : decode cX6_layStops 47 = .ok (.invokevirtual 85, 3) := by decide +kernel
theorem dX6_layStops_50 : decode cX6_layStops 50 = .ok (.iload_n 2, 1) := by decide +kernel
theorem dX6_layStops_51 : decode cX6_layStops 51 = .ok (.if_icmp .le 18, 3) := by decide +kernel
theorem dX6_layStops_54 : decode cX6_layStops 54 = .ok (.aload_n 0, 1) := by decide +kernel
theorem dX6_layStops_55 : decode cX6_layStops 55 = .ok (.iload 5, 2) := by decide +kernel
theorem dX6_layStops_57 : decode cX6_layStops 57 = .ok (.invokevirtual 85, 3) := by decide +kernel
theorem dX6_layStops_60 : decode cX6_layStops 60 = .ok (.iload 4, 2) := by decide +kernel
theorem dX6_layStops_62 : decode cX6_layStops 62 = .ok (.if_icmp .ge 7, 3) := by decide +kernel
theorem dX6_layStops_65 : decode cX6_layStops 65 = .ok (.iconst 1, 1) := by decide +kernel
theorem dX6_layStops_66 : decode cX6_layStops 66 = .ok (.goto 4, 3) := by decide +kernel
theorem dX6_layStops_69 : decode cX6_layStops 69 = .ok (.iconst 0, 1) := by decide +kernel
theorem dX6_layStops_70 : decode cX6_layStops 70 = .ok (.istore 6, 2) := by decide +kernel
theorem dX6_layStops_72 : decode cX6_layStops 72 = .ok (.iload 6, 2) := by decide +kernel
theorem dX6_layStops_74 : decode cX6_layStops 74 = .ok (.ifCond .eq 12, 3) := by decide +kernel
theorem dX6_layStops_77 : decode cX6_layStops 77 = .ok (.aload_n 0, 1) := by decide +kernel
theorem dX6_layStops_78 : decode cX6_layStops 78 = .ok (.iload 5, 2) := by decide +kernel
theorem dX6_layStops_80 : decode cX6_layStops 80 = .ok (.invokevirtual 85, 3) := by decide +kernel
theorem dX6_layStops_83 : decode cX6_layStops 83 = .ok (.goto 5, 3) := by decide +kernel
theorem dX6_layStops_86 : decode cX6_layStops 86 = .ok (.iload 4, 2) := by decide +kernel
theorem dX6_layStops_88 : decode cX6_layStops 88 = .ok (.istore 4, 2) := by decide +kernel
theorem dX6_layStops_90 : decode cX6_layStops 90 = .ok (.iinc 5 1, 3) := by decide +kernel
theorem dX6_layStops_93 : decode cX6_layStops 93 = .ok (.goto (-72), 3) := by decide +kernel
theorem dX6_layStops_96 : decode cX6_layStops 96 = .ok (.iload 4, 2) := by decide +kernel
theorem dX6_layStops_98 : decode cX6_layStops 98 = .ok (.sipush 1000, 3) := by decide +kernel
theorem dX6_layStops_101 : decode cX6_layStops 101 = .ok (.if_icmp .ge 7, 3) := by decide +kernel
theorem dX6_layStops_104 : decode cX6_layStops 104 = .ok (.iconst 1, 1) := by decide +kernel
theorem dX6_layStops_105 : decode cX6_layStops 105 = .ok (.goto 4, 3) := by decide +kernel
theorem dX6_layStops_108 : decode cX6_layStops 108 = .ok (.iconst 0, 1) := by decide +kernel
theorem dX6_layStops_109 : decode cX6_layStops 109 = .ok (.istore_n 3, 1) := by decide +kernel
theorem dX6_layStops_110 : decode cX6_layStops 110 = .ok (.iload_n 3, 1) := by decide +kernel
theorem dX6_layStops_111 : decode cX6_layStops 111 = .ok (.ifCond .eq 119, 3) := by decide +kernel
theorem dX6_layStops_114 : decode cX6_layStops 114 = .ok (.aload_n 0, 1) := by decide +kernel
theorem dX6_layStops_115 : decode cX6_layStops 115 = .ok (.getfield 82, 3) := by decide +kernel
theorem dX6_layStops_118 : decode cX6_layStops 118 = .ok (.ifCond .ne 16, 3) := by decide +kernel
theorem dX6_layStops_121 : decode cX6_layStops 121 = .ok (.bipush 10, 2) := by decide +kernel
theorem dX6_layStops_123 : decode cX6_layStops 123 = .ok (.iconst 5, 1) := by decide +kernel
theorem dX6_layStops_124 : decode cX6_layStops 124 = .ok (.iload 4, 2) := by decide +kernel
theorem dX6_layStops_126 : decode cX6_layStops 126 = .ok (.bipush 100, 2) := by decide +kernel
theorem dX6_layStops_128 : decode cX6_layStops 128 = .ok (.idiv, 1) := by decide +kernel
theorem dX6_layStops_129 : decode cX6_layStops 129 = .ok (.imul, 1) := by decide +kernel
theorem dX6_layStops_130 : decode cX6_layStops 130 = .ok (.iadd, 1) := by decide +kernel
theorem dX6_layStops_131 : decode cX6_layStops 131 = .ok (.goto 31, 3) := by decide +kernel
theorem dX6_layStops_134 : decode cX6_layStops 134 = .ok (.iload 4, 2) := by decide +kernel
theorem dX6_layStops_136 : decode cX6_layStops 136 = .ok (.bipush 100, 2) := by decide +kernel
theorem dX6_layStops_138 : decode cX6_layStops 138 = .ok (.idiv, 1) := by decide +kernel
theorem dX6_layStops_139 : decode cX6_layStops 139 = .ok (.iload_n 2, 1) := by decide +kernel
theorem dX6_layStops_140 : decode cX6_layStops 140 = .ok (.bipush 100, 2) := by decide +kernel
theorem dX6_layStops_142 : decode cX6_layStops 142 = .ok (.idiv, 1) := by decide +kernel
theorem dX6_layStops_143 : decode cX6_layStops 143 = .ok (.if_icmp .ne 7, 3) := by decide +kernel
theorem dX6_layStops_146 : decode cX6_layStops 146 = .ok (.iconst 3, 1) := by decide +kernel
theorem dX6_layStops_147 : decode cX6_layStops 147 = .ok (.goto 15, 3) := by decide +kernel
theorem dX6_layStops_150 : decode cX6_layStops 150 = .ok (.iconst 5, 1) := by decide +kernel
theorem dX6_layStops_151 : decode cX6_layStops 151 = .ok (.iload 4, 2) := by decide +kernel
theorem dX6_layStops_153 : decode cX6_layStops 153 = .ok (.bipush 100, 2) := by decide +kernel
theorem dX6_layStops_155 : decode cX6_layStops 155 = .ok (.idiv, 1) := by decide +kernel
theorem dX6_layStops_156 : decode cX6_layStops 156 = .ok (.iload_n 2, 1) := by decide +kernel
theorem dX6_layStops_157 : decode cX6_layStops 157 = .ok (.bipush 100, 2) := by decide +kernel
theorem dX6_layStops_159 : decode cX6_layStops 159 = .ok (.idiv, 1) := by decide +kernel
theorem dX6_layStops_160 : decode cX6_layStops 160 = .ok (.isub, 1) := by decide +kernel
theorem dX6_layStops_161 : decode cX6_layStops 161 = .ok (.imul, 1) := by decide +kernel
theorem dX6_layStops_162 : decode cX6_layStops 162 = .ok (.istore 5, 2) := by decide +kernel
theorem dX6_layStops_164 : decode cX6_layStops 164 = .ok (.aload_n 0, 1) := by decide +kernel
theorem dX6_layStops_165 : decode cX6_layStops 165 = .ok (.getfield 40, 3) := by decide +kernel
theorem dX6_layStops_168 : decode cX6_layStops 168 = .ok (.aload_n 0, 1) := by decide +kernel
theorem dX6_layStops_169 : decode cX6_layStops 169 = .ok (.getfield 82, 3) := by decide +kernel
theorem dX6_layStops_172 : decode cX6_layStops 172 = .ok (.iload 4, 2) := by decide +kernel
theorem dX6_layStops_174 : decode cX6_layStops 174 = .ok (.iastore, 1) := by decide +kernel
theorem dX6_layStops_175 : decode cX6_layStops 175 = .ok (.aload_n 0, 1) := by decide +kernel
theorem dX6_layStops_176 : decode cX6_layStops 176 = .ok (.getfield 43, 3) := by decide +kernel
theorem dX6_layStops_179 : decode cX6_layStops 179 = .ok (.aload_n 0, 1) := by decide +kernel
theorem dX6_layStops_180 : decode cX6_layStops 180 = .ok (.getfield 82, 3) := by decide +kernel
theorem dX6_layStops_183 : decode cX6_layStops 183 = .ok (.iload 5, 2) := by decide +kernel
theorem dX6_layStops_185 : decode cX6_layStops 185 = .ok (.aload_n 0, 1) := by decide +kernel
theorem dX6_layStops_186 : decode cX6_layStops 186 = .ok (.getfield 82, 3) := by decide +kernel
theorem dX6_layStops_189 : decode cX6_layStops 189 = .ok (.ifCond .ne 15, 3) := by decide +kernel
theorem dX6_layStops_192 : decode cX6_layStops 192 = .ok (.aload_n 0, 1) := by decide +kernel
theorem dX6_layStops_193 : decode cX6_layStops 193 = .ok (.getfield 7, 3) := by decide +kernel
theorem dX6_layStops_196 : decode cX6_layStops 196 = .ok (.bipush 17, 2) := by decide +kernel
theorem dX6_layStops_198 : decode cX6_layStops 198 = .ok (.iload_n 1, 1) := by decide +kernel
theorem dX6_layStops_199 : decode cX6_layStops 199 = .ok (.iadd, 1) := by decide +kernel
theorem dX6_layStops_200 : decode cX6_layStops 200 = .ok (.iaload, 1) := by decide +kernel
theorem dX6_layStops_201 : decode cX6_layStops 201 = .ok (.goto 14, 3) := by decide +kernel
theorem dX6_layStops_204 : decode cX6_layStops 204 = .ok (.aload_n 0, 1) := by decide +kernel
theorem dX6_layStops_205 : decode cX6_layStops 205 = .ok (.getfield 43, 3) := by decide +kernel
theorem dX6_layStops_208 : decode cX6_layStops 208 = .ok (.aload_n 0, 1) := by decide +kernel
theorem dX6_layStops_209 : decode cX6_layStops 209 = .ok (.getfield 82, 3) := by decide +kernel
theorem dX6_layStops_212 : decode cX6_layStops 212 = .ok (.iconst 1, 1) := by decide +kernel
theorem dX6_layStops_213 : decode cX6_layStops 213 = .ok (.isub, 1) := by decide +kernel
theorem dX6_layStops_214 : decode cX6_layStops 214 = .ok (.iaload, 1) := by decide +kernel
theorem dX6_layStops_215 : decode cX6_layStops 215 = .ok (.iadd, 1) := by decide +kernel
theorem dX6_layStops_216 : decode cX6_layStops 216 = .ok (.iastore, 1) := by decide +kernel
theorem dX6_layStops_217 : decode cX6_layStops 217 = .ok (.aload_n 0, 1) := by decide +kernel
theorem dX6_layStops_218 : decode cX6_layStops 218 = .ok (.dup, 1) := by decide +kernel
theorem dX6_layStops_219 : decode cX6_layStops 219 = .ok (.getfield 82, 3) := by decide +kernel
theorem dX6_layStops_222 : decode cX6_layStops 222 = .ok (.iconst 1, 1) := by decide +kernel
theorem dX6_layStops_223 : decode cX6_layStops 223 = .ok (.iadd, 1) := by decide +kernel
theorem dX6_layStops_224 : decode cX6_layStops 224 = .ok (.putfield 82, 3) := by decide +kernel
theorem dX6_layStops_227 : decode cX6_layStops 227 = .ok (.iload 4, 2) := by decide +kernel
theorem dX6_layStops_229 : decode cX6_layStops 229 = .ok (.istore_n 2, 1) := by decide +kernel
theorem dX6_layStops_230 : decode cX6_layStops 230 = .ok (.goto (-221), 3) := by decide +kernel
theorem dX6_layStops_233 : decode cX6_layStops 233 = .ok (.return_, 1) := by decide +kernel
theorem dX6_minuteAt_0 : decode cX6_minuteAt 0 = .ok (.aload_n 0, 1) := by decide +kernel
theorem dX6_minuteAt_1 : decode cX6_minuteAt 1 = .ok (.iload_n 1, 1) := by decide +kernel
theorem dX6_minuteAt_2 : decode cX6_minuteAt 2 = .ok (.invokevirtual 88, 3) := by decide +kernel
theorem dX6_minuteAt_5 : decode cX6_minuteAt 5 = .ok (.iconst 0, 1) := by decide +kernel
theorem dX6_minuteAt_6 : decode cX6_minuteAt 6 = .ok (.istore_n 3, 1) := by decide +kernel
theorem dX6_minuteAt_7 : decode cX6_minuteAt 7 = .ok (.aload_n 0, 1) := by decide +kernel
theorem dX6_minuteAt_8 : decode cX6_minuteAt 8 = .ok (.getfield 40, 3) := by decide +kernel
theorem dX6_minuteAt_11 : decode cX6_minuteAt 11 = .ok (.iload_n 3, 1) := by decide +kernel
theorem dX6_minuteAt_12 : decode cX6_minuteAt 12 = .ok (.iaload, 1) := by decide +kernel
theorem dX6_minuteAt_13 : decode cX6_minuteAt 13 = .ok (.iload_n 2, 1) := by decide +kernel
theorem dX6_minuteAt_14 : decode cX6_minuteAt 14 = .ok (.if_icmp .eq 9, 3) := by decide +kernel
theorem dX6_minuteAt_17 : decode cX6_minuteAt 17 = .ok (.iinc 3 1, 3) := by decide +kernel
theorem dX6_minuteAt_20 : decode cX6_minuteAt 20 = .ok (.goto (-13), 3) := by decide +kernel
theorem dX6_minuteAt_23 : decode cX6_minuteAt 23 = .ok (.aload_n 0, 1) := by decide +kernel
theorem dX6_minuteAt_24 : decode cX6_minuteAt 24 = .ok (.getfield 43, 3) := by decide +kernel
theorem dX6_minuteAt_27 : decode cX6_minuteAt 27 = .ok (.iload_n 3, 1) := by decide +kernel
theorem dX6_minuteAt_28 : decode cX6_minuteAt 28 = .ok (.iaload, 1) := by decide +kernel
theorem dX6_minuteAt_29 : decode cX6_minuteAt 29 = .ok (.ireturn, 1) := by decide +kernel
theorem dX6_isWith_0 : decode cX6_isWith 0 = .ok (.aload_n 0, 1) := by decide +kernel
theorem dX6_isWith_1 : decode cX6_isWith 1 = .ok (.getfield 28, 3) := by decide +kernel
theorem dX6_isWith_4 : decode cX6_isWith 4 = .ok (.iload_n 1, 1) := by decide +kernel
theorem dX6_isWith_5 : decode cX6_isWith 5 = .ok (.iaload, 1) := by decide +kernel
theorem dX6_isWith_6 : decode cX6_isWith 6 = .ok (.aload_n 0, 1) := by decide +kernel
theorem dX6_isWith_7 : decode cX6_isWith 7 = .ok (.getfield 28, 3) := by decide +kernel
theorem dX6_isWith_10 : decode cX6_isWith 10 = .ok (.iload_n 2, 1) := by decide +kernel
theorem dX6_isWith_11 : decode cX6_isWith 11 = .ok (.iaload, 1) := by decide +kernel
theorem dX6_isWith_12 : decode cX6_isWith 12 = .ok (.if_icmp .ne 24, 3) := by decide +kernel
theorem dX6_isWith_15 : decode cX6_isWith 15 = .ok (.iload_n 3, 1) := by decide +kernel
theorem dX6_isWith_16 : decode cX6_isWith 16 = .ok (.ifCond .eq 16, 3) := by decide +kernel
theorem dX6_isWith_19 : decode cX6_isWith 19 = .ok (.aload_n 0, 1) := by decide +kernel
theorem dX6_isWith_20 : decode cX6_isWith 20 = .ok (.iload_n 1, 1) := by decide +kernel
theorem dX6_isWith_21 : decode cX6_isWith 21 = .ok (.invokevirtual 85, 3) := by decide +kernel
theorem dX6_isWith_24 : decode cX6_isWith 24 = .ok (.aload_n 0, 1) := by decide +kernel
theorem dX6_isWith_25 : decode cX6_isWith 25 = .ok (.iload_n 2, 1) := by decide +kernel
theorem dX6_isWith_26 : decode cX6_isWith 26 = .ok (.invokevirtual 85, 3) := by decide +kernel
theorem dX6_isWith_29 : decode cX6_isWith 29 = .ok (.if_icmp .ne 7, 3) := by decide +kernel
theorem dX6_isWith_32 : decode cX6_isWith 32 = .ok (.iconst 1, 1) := by decide +kernel
theorem dX6_isWith_33 : decode cX6_isWith 33 = .ok (.goto 4, 3) := by decide +kernel
theorem dX6_isWith_36 : decode cX6_isWith 36 = .ok (.iconst 0, 1) := by decide +kernel
theorem dX6_isWith_37 : decode cX6_isWith 37 = .ok (.ireturn, 1) := by decide +kernel
theorem dX6_part_0 : decode cX6_part 0 = .ok (.iconst 0, 1) := by decide +kernel
theorem dX6_part_1 : decode cX6_part 1 = .ok (.istore 4, 2) := by decide +kernel
theorem dX6_part_3 : decode cX6_part 3 = .ok (.iconst 0, 1) := by decide +kernel
theorem dX6_part_4 : decode cX6_part 4 = .ok (.istore 5, 2) := by decide +kernel
theorem dX6_part_6 : decode cX6_part 6 = .ok (.iload 5, 2) := by decide +kernel
theorem dX6_part_8 : decode cX6_part 8 = .ok (.aload_n 0, 1) := by decide +kernel
theorem dX6_part_9 : decode cX6_part 9 = .ok (.getfield 7, 3) := by decide +kernel
theorem dX6_part_12 : decode cX6_part 12 = .ok (.bipush 33, 2) := by decide +kernel
theorem dX6_part_14 : decode cX6_part 14 = .ok (.iaload, 1) := by decide +kernel
theorem dX6_part_15 : decode cX6_part 15 = .ok (.if_icmp .ge 36, 3) := by decide +kernel
theorem dX6_part_18 : decode cX6_part 18 = .ok (.iload 4, 2) := by decide +kernel
theorem dX6_part_20 : decode cX6_part 20 = .ok (.aload_n 0, 1) := by decide +kernel
theorem dX6_part_21 : decode cX6_part 21 = .ok (.iload 5, 2) := by decide +kernel
theorem dX6_part_23 : decode cX6_part 23 = .ok (.iload_n 1, 1) := by decide +kernel
theorem dX6_part_24 : decode cX6_part 24 = .ok (.iload_n 3, 1) := by decide +kernel
theorem dX6_part_25 : decode cX6_part 25 = .ok (.invokevirtual 92, 3) := by decide +kernel
theorem dX6_part_28 : decode cX6_part 28 = .ok (.ifCond .eq 13, 3) := by decide +kernel
theorem dX6_part_31 : decode cX6_part 31 = .ok (.aload_n 0, 1) := by decide +kernel
theorem dX6_part_32 : decode cX6_part 32 = .ok (.iload 5, 2) := by decide +kernel
theorem dX6_part_34 : decode cX6_part 34 = .ok (.iconst 3, 1) := by decide +kernel
theorem dX6_part_35 : decode cX6_part 35 = .ok (.invokevirtual 57, 3) := by decide +kernel
theorem dX6_part_38 : decode cX6_part 38 = .ok (.goto 4, 3) := by decide +kernel
theorem dX6_part_41 : decode cX6_part 41 = .ok (.iconst 0, 1) := by decide +kernel
theorem dX6_part_42 : decode cX6_part 42 = .ok (.iadd, 1) := by decide +kernel
theorem dX6_part_43 : decode cX6_part 43 = .ok (.istore 4, 2) := by decide +kernel
theorem dX6_part_45 : decode cX6_part 45 = .ok (.iinc 5 1, 3) := by decide +kernel
theorem dX6_part_48 : decode cX6_part 48 = .ok (.goto (-42), 3) := by decide +kernel
theorem dX6_part_51 : decode cX6_part 51 = .ok (.iload_n 2, 1) := by decide +kernel
theorem dX6_part_52 : decode cX6_part 52 = .ok (.istore 5, 2) := by decide +kernel
theorem dX6_part_54 : decode cX6_part 54 = .ok (.iconst 0, 1) := by decide +kernel
theorem dX6_part_55 : decode cX6_part 55 = .ok (.istore 6, 2) := by decide +kernel
theorem dX6_part_57 : decode cX6_part 57 = .ok (.iconst 0, 1) := by decide +kernel
theorem dX6_part_58 : decode cX6_part 58 = .ok (.istore 7, 2) := by decide +kernel
theorem dX6_part_60 : decode cX6_part 60 = .ok (.iload 7, 2) := by decide +kernel
theorem dX6_part_62 : decode cX6_part 62 = .ok (.aload_n 0, 1) := by decide +kernel
theorem dX6_part_63 : decode cX6_part 63 = .ok (.getfield 7, 3) := by decide +kernel
theorem dX6_part_66 : decode cX6_part 66 = .ok (.bipush 33, 2) := by decide +kernel
theorem dX6_part_68 : decode cX6_part 68 = .ok (.iaload, 1) := by decide +kernel
theorem dX6_part_69 : decode cX6_part 69 = .ok (.if_icmp .ge 66, 3) := by decide +kernel
theorem dX6_part_72 : decode cX6_part 72 = .ok (.aload_n 0, 1) := by decide +kernel
theorem dX6_part_73 : decode cX6_part 73 = .ok (.iload 7, 2) := by decide +kernel
theorem dX6_part_75 : decode cX6_part 75 = .ok (.iload_n 1, 1) := by decide +kernel
theorem dX6_part_76 : decode cX6_part 76 = .ok (.iload_n 3, 1) := by decide +kernel
theorem dX6_part_77 : decode cX6_part 77 = .ok (.invokevirtual 92, 3) := by decide +kernel
theorem dX6_part_80 : decode cX6_part 80 = .ok (.istore 8, 2) := by decide +kernel
theorem dX6_part_82 : decode cX6_part 82 = .ok (.iload 5, 2) := by decide +kernel
theorem dX6_part_84 : decode cX6_part 84 = .ok (.iload 8, 2) := by decide +kernel
theorem dX6_part_86 : decode cX6_part 86 = .ok (.ifCond .eq 18, 3) := by decide +kernel
theorem dX6_part_89 : decode cX6_part 89 = .ok (.iload_n 2, 1) := by decide +kernel
theorem dX6_part_90 : decode cX6_part 90 = .ok (.aload_n 0, 1) := by decide +kernel
theorem dX6_part_91 : decode cX6_part 91 = .ok (.iload 7, 2) := by decide +kernel
theorem dX6_part_93 : decode cX6_part 93 = .ok (.iconst 3, 1) := by decide +kernel
theorem dX6_part_94 : decode cX6_part 94 = .ok (.invokevirtual 57, 3) := by decide +kernel
theorem dX6_part_97 : decode cX6_part 97 = .ok (.imul, 1) := by decide +kernel
theorem dX6_part_98 : decode cX6_part 98 = .ok (.iload 4, 2) := by decide +kernel
theorem dX6_part_100 : decode cX6_part 100 = .ok (.idiv, 1) := by decide +kernel
theorem dX6_part_101 : decode cX6_part 101 = .ok (.goto 4, 3) := by decide +kernel
theorem dX6_part_104 : decode cX6_part 104 = .ok (.iconst 0, 1) := by decide +kernel
theorem dX6_part_105 : decode cX6_part 105 = .ok (.isub, 1) := by decide +kernel
theorem dX6_part_106 : decode cX6_part 106 = .ok (.istore 5, 2) := by decide +kernel
theorem dX6_part_108 : decode cX6_part 108 = .ok (.iload 6, 2) := by decide +kernel
theorem dX6_part_110 : decode cX6_part 110 = .ok (.iload 8, 2) := by decide +kernel
theorem dX6_part_112 : decode cX6_part 112 = .ok (.ifCond .eq 13, 3) := by decide +kernel
theorem dX6_part_115 : decode cX6_part 115 = .ok (.iload 7, 2) := by decide +kernel
theorem dX6_part_117 : decode cX6_part 117 = .ok (.iload_n 1, 1) := by decide +kernel
theorem dX6_part_118 : decode cX6_part 118 = .ok (.if_icmp .ge 7, 3) := by decide +kernel
theorem dX6_part_121 : decode cX6_part 121 = .ok (.iconst 1, 1) := by decide +kernel
theorem dX6_part_122 : decode cX6_part 122 = .ok (.goto 4, 3) := by decide +kernel
theorem dX6_part_125 : decode cX6_part 125 = .ok (.iconst 0, 1) := by decide +kernel
theorem dX6_part_126 : decode cX6_part 126 = .ok (.iadd, 1) := by decide +kernel
theorem dX6_part_127 : decode cX6_part 127 = .ok (.istore 6, 2) := by decide +kernel
theorem dX6_part_129 : decode cX6_part 129 = .ok (.iinc 7 1, 3) := by decide +kernel
theorem dX6_part_132 : decode cX6_part 132 = .ok (.goto (-72), 3) := by decide +kernel
theorem dX6_part_135 : decode cX6_part 135 = .ok (.iload_n 2, 1) := by decide +kernel
theorem dX6_part_136 : decode cX6_part 136 = .ok (.aload_n 0, 1) := by decide +kernel
theorem dX6_part_137 : decode cX6_part 137 = .ok (.iload_n 1, 1) := by decide +kernel
theorem dX6_part_138 : decode cX6_part 138 = .ok (.iconst 3, 1) := by decide +kernel
theorem dX6_part_139 : decode cX6_part 139 = .ok (.invokevirtual 57, 3) := by decide +kernel
theorem dX6_part_142 : decode cX6_part 142 = .ok (.imul, 1) := by decide +kernel
theorem dX6_part_143 : decode cX6_part 143 = .ok (.iload 4, 2) := by decide +kernel
theorem dX6_part_145 : decode cX6_part 145 = .ok (.idiv, 1) := by decide +kernel
theorem dX6_part_146 : decode cX6_part 146 = .ok (.iload 6, 2) := by decide +kernel
theorem dX6_part_148 : decode cX6_part 148 = .ok (.iload 5, 2) := by decide +kernel
theorem dX6_part_150 : decode cX6_part 150 = .ok (.if_icmp .ge 7, 3) := by decide +kernel
theorem dX6_part_153 : decode cX6_part 153 = .ok (.iconst 1, 1) := by decide +kernel
theorem dX6_part_154 : decode cX6_part 154 = .ok (.goto 4, 3) := by decide +kernel
theorem dX6_part_157 : decode cX6_part 157 = .ok (.iconst 0, 1) := by decide +kernel
theorem dX6_part_158 : decode cX6_part 158 = .ok (.iadd, 1) := by decide +kernel
theorem dX6_part_159 : decode cX6_part 159 = .ok (.ireturn, 1) := by decide +kernel
theorem dX6_fare_0 : decode cX6_fare 0 = .ok (.aload_n 0, 1) := by decide +kernel
theorem dX6_fare_1 : decode cX6_fare 1 = .ok (.getfield 28, 3) := by decide +kernel
theorem dX6_fare_4 : decode cX6_fare 4 = .ok (.iload_n 1, 1) := by decide +kernel
theorem dX6_fare_5 : decode cX6_fare 5 = .ok (.iaload, 1) := by decide +kernel
theorem dX6_fare_6 : decode cX6_fare 6 = .ok (.bipush (-106), 2) := by decide +kernel
theorem dX6_fare_8 : decode cX6_fare 8 = .ok (.if_icmp .ne 7, 3) := by decide +kernel
theorem dX6_fare_11 : decode cX6_fare 11 = .ok (.iconst 0, 1) := by decide +kernel
theorem dX6_fare_12 : decode cX6_fare 12 = .ok (.goto 28, 3) := by decide +kernel
theorem dX6_fare_15 : decode cX6_fare 15 = .ok (.aload_n 0, 1) := by decide +kernel
theorem dX6_fare_16 : decode cX6_fare 16 = .ok (.iload_n 1, 1) := by decide +kernel
theorem dX6_fare_17 : decode cX6_fare 17 = .ok (.aload_n 0, 1) := by decide +kernel
theorem dX6_fare_18 : decode cX6_fare 18 = .ok (.getfield 7, 3) := by decide +kernel
theorem dX6_fare_21 : decode cX6_fare 21 = .ok (.iconst 3, 1) := by decide +kernel
theorem dX6_fare_22 : decode cX6_fare 22 = .ok (.iaload, 1) := by decide +kernel
theorem dX6_fare_23 : decode cX6_fare 23 = .ok (.iconst 0, 1) := by decide +kernel
theorem dX6_fare_24 : decode cX6_fare 24 = .ok (.invokevirtual 96, 3) := by decide +kernel
theorem dX6_fare_27 : decode cX6_fare 27 = .ok (.aload_n 0, 1) := by decide +kernel
theorem dX6_fare_28 : decode cX6_fare 28 = .ok (.iload_n 1, 1) := by decide +kernel
theorem dX6_fare_29 : decode cX6_fare 29 = .ok (.aload_n 0, 1) := by decide +kernel
theorem dX6_fare_30 : decode cX6_fare 30 = .ok (.getfield 7, 3) := by decide +kernel
theorem dX6_fare_33 : decode cX6_fare 33 = .ok (.iconst 4, 1) := by decide +kernel
theorem dX6_fare_34 : decode cX6_fare 34 = .ok (.iaload, 1) := by decide +kernel
theorem dX6_fare_35 : decode cX6_fare 35 = .ok (.iconst 1, 1) := by decide +kernel
theorem dX6_fare_36 : decode cX6_fare 36 = .ok (.invokevirtual 96, 3) := by decide +kernel
theorem dX6_fare_39 : decode cX6_fare 39 = .ok (.iadd, 1) := by decide +kernel
theorem dX6_fare_40 : decode cX6_fare 40 = .ok (.ireturn, 1) := by decide +kernel
theorem dX6_strandedPeople_0 : decode cX6_strandedPeople 0 = .ok (.iconst 0, 1) := by decide +kernel
theorem dX6_strandedPeople_1 : decode cX6_strandedPeople 1 = .ok (.istore_n 1, 1) := by decide +kernel
theorem dX6_strandedPeople_2 : decode cX6_strandedPeople 2 = .ok (.iconst 0, 1) := by decide +kernel
theorem dX6_strandedPeople_3 : decode cX6_strandedPeople 3 = .ok (.istore_n 2, 1) := by decide +kernel
theorem dX6_strandedPeople_4 : decode cX6_strandedPeople 4 = .ok (.iload_n 2, 1) := by decide +kernel
theorem dX6_strandedPeople_5 : decode cX6_strandedPeople 5 = .ok (.aload_n 0, 1) := by decide +kernel
theorem dX6_strandedPeople_6 : decode cX6_strandedPeople 6 = .ok (.getfield 7, 3) := by decide +kernel
theorem dX6_strandedPeople_9 : decode cX6_strandedPeople 9 = .ok (.bipush 33, 2) := by decide +kernel
theorem dX6_strandedPeople_11 : decode cX6_strandedPeople 11 = .ok (.iaload, 1) := by decide +kernel
theorem dX6_strandedPeople_12 : decode cX6_strandedPeople 12 = .ok (.if_icmp .ge 33, 3) := by decide +kernel
theorem dX6_strandedPeople_15 : decode cX6_strandedPeople 15 = .ok (.iload_n 1, 1) := by decide +kernel
theorem dX6_strandedPeople_16 : decode cX6_strandedPeople 16 = .ok (.aload_n 0, 1) := by decide +kernel
theorem dX6_strandedPeople_17 : decode cX6_strandedPeople 17 = .ok (.getfield 28, 3) := by decide +kernel
theorem dX6_strandedPeople_20 : decode cX6_strandedPeople 20 = .ok (.iload_n 2, 1) := by decide +kernel
theorem dX6_strandedPeople_21 : decode cX6_strandedPeople 21 = .ok (.iaload, 1) := by decide +kernel
theorem dX6_strandedPeople_22 : decode cX6_strandedPeople 22 = .ok (.bipush (-106), 2) := by decide +kernel
theorem dX6_strandedPeople_24 : decode cX6_strandedPeople 24 = .ok (.if_icmp .ne 12, 3) := by decide +kernel
theorem dX6_strandedPeople_27 : decode cX6_strandedPeople 27 = .ok (.aload_n 0, 1) := by decide +kernel
theorem dX6_strandedPeople_28 : decode cX6_strandedPeople 28 = .ok (.iload_n 2, 1) := by decide +kernel
theorem dX6_strandedPeople_29 : decode cX6_strandedPeople 29 = .ok (.iconst 3, 1) := by decide +kernel
theorem dX6_strandedPeople_30 : decode cX6_strandedPeople 30 = .ok (.invokevirtual 57, 3) := by decide +kernel
theorem dX6_strandedPeople_33 : decode cX6_strandedPeople 33 = .ok (.goto 4, 3) := by decide +kernel
theorem dX6_strandedPeople_36 : decode cX6_strandedPeople 36 = .ok (.iconst 0, 1) := by decide +kernel
theorem dX6_strandedPeople_37 : decode cX6_strandedPeople 37 = .ok (.iadd, 1) := by decide +kernel
theorem dX6_strandedPeople_38 : decode cX6_strandedPeople 38 = .ok (.istore_n 1, 1) := by decide +kernel
theorem dX6_strandedPeople_39 : decode cX6_strandedPeople 39 = .ok (.iinc 2 1, 3) := by decide +kernel
theorem dX6_strandedPeople_42 : decode cX6_strandedPeople 42 = .ok (.goto (-38), 3) := by decide +kernel
theorem dX6_strandedPeople_45 : decode cX6_strandedPeople 45 = .ok (.iload_n 1, 1) := by decide +kernel
theorem dX6_strandedPeople_46 : decode cX6_strandedPeople 46 = .ok (.ireturn, 1) := by decide +kernel
theorem dX6_waiting_0 : decode cX6_waiting 0 = .ok (.iconst 0, 1) := by decide +kernel
theorem dX6_waiting_1 : decode cX6_waiting 1 = .ok (.istore_n 1, 1) := by decide +kernel
theorem dX6_waiting_2 : decode cX6_waiting 2 = .ok (.iconst 0, 1) := by decide +kernel
theorem dX6_waiting_3 : decode cX6_waiting 3 = .ok (.istore_n 2, 1) := by decide +kernel
theorem dX6_waiting_4 : decode cX6_waiting 4 = .ok (.iload_n 2, 1) := by decide +kernel
theorem dX6_waiting_5 : decode cX6_waiting 5 = .ok (.aload_n 0, 1) := by decide +kernel
theorem dX6_waiting_6 : decode cX6_waiting 6 = .ok (.getfield 7, 3) := by decide +kernel
theorem dX6_waiting_9 : decode cX6_waiting 9 = .ok (.bipush 33, 2) := by decide +kernel
theorem dX6_waiting_11 : decode cX6_waiting 11 = .ok (.iaload, 1) := by decide +kernel
theorem dX6_waiting_12 : decode cX6_waiting 12 = .ok (.if_icmp .ge 54, 3) := by decide +kernel
theorem dX6_waiting_15 : decode cX6_waiting 15 = .ok (.iload_n 1, 1) := by decide +kernel
theorem dX6_waiting_16 : decode cX6_waiting 16 = .ok (.aload_n 0, 1) := by decide +kernel
theorem dX6_waiting_17 : decode cX6_waiting 17 = .ok (.getfield 28, 3) := by decide +kernel
theorem dX6_waiting_20 : decode cX6_waiting 20 = .ok (.iload_n 2, 1) := by decide +kernel
theorem dX6_waiting_21 : decode cX6_waiting 21 = .ok (.iaload, 1) := by decide +kernel
theorem dX6_waiting_22 : decode cX6_waiting 22 = .ok (.bipush (-106), 2) := by decide +kernel
theorem dX6_waiting_24 : decode cX6_waiting 24 = .ok (.if_icmp .ne 7, 3) := by decide +kernel
theorem dX6_waiting_27 : decode cX6_waiting 27 = .ok (.iconst 0, 1) := by decide +kernel
theorem dX6_waiting_28 : decode cX6_waiting 28 = .ok (.goto 30, 3) := by decide +kernel
theorem dX6_waiting_31 : decode cX6_waiting 31 = .ok (.aload_n 0, 1) := by decide +kernel
theorem dX6_waiting_32 : decode cX6_waiting 32 = .ok (.iload_n 2, 1) := by decide +kernel
theorem dX6_waiting_33 : decode cX6_waiting 33 = .ok (.iconst 3, 1) := by decide +kernel
theorem dX6_waiting_34 : decode cX6_waiting 34 = .ok (.invokevirtual 57, 3) := by decide +kernel
theorem dX6_waiting_37 : decode cX6_waiting 37 = .ok (.aload_n 0, 1) := by decide +kernel
theorem dX6_waiting_38 : decode cX6_waiting 38 = .ok (.getfield 7, 3) := by decide +kernel
theorem dX6_waiting_41 : decode cX6_waiting 41 = .ok (.bipush 17, 2) := by decide +kernel
theorem dX6_waiting_43 : decode cX6_waiting 43 = .ok (.aload_n 0, 1) := by decide +kernel
theorem dX6_waiting_44 : decode cX6_waiting 44 = .ok (.getfield 28, 3) := by decide +kernel
theorem dX6_waiting_47 : decode cX6_waiting 47 = .ok (.iload_n 2, 1) := by decide +kernel
theorem dX6_waiting_48 : decode cX6_waiting 48 = .ok (.iaload, 1) := by decide +kernel
theorem dX6_waiting_49 : decode cX6_waiting 49 = .ok (.iadd, 1) := by decide +kernel
theorem dX6_waiting_50 : decode cX6_waiting 50 = .ok (.iaload, 1) := by decide +kernel
theorem dX6_waiting_51 : decode cX6_waiting 51 = .ok (.aload_n 0, 1) := by decide +kernel
theorem dX6_waiting_52 : decode cX6_waiting 52 = .ok (.iload_n 2, 1) := by decide +kernel
theorem dX6_waiting_53 : decode cX6_waiting 53 = .ok (.invokevirtual 65, 3) := by decide +kernel
theorem dX6_waiting_56 : decode cX6_waiting 56 = .ok (.isub, 1) := by decide +kernel
theorem dX6_waiting_57 : decode cX6_waiting 57 = .ok (.imul, 1) := by decide +kernel
theorem dX6_waiting_58 : decode cX6_waiting 58 = .ok (.iadd, 1) := by decide +kernel
theorem dX6_waiting_59 : decode cX6_waiting 59 = .ok (.istore_n 1, 1) := by decide +kernel
theorem dX6_waiting_60 : decode cX6_waiting 60 = .ok (.iinc 2 1, 3) := by decide +kernel
theorem dX6_waiting_63 : decode cX6_waiting 63 = .ok (.goto (-59), 3) := by decide +kernel
theorem dX6_waiting_66 : decode cX6_waiting 66 = .ok (.iload_n 1, 1) := by decide +kernel
theorem dX6_waiting_67 : decode cX6_waiting 67 = .ok (.ireturn, 1) := by decide +kernel
theorem dX6_lastMinute_0 : decode cX6_lastMinute 0 = .ok (.bipush (-106), 2) := by decide +kernel
theorem dX6_lastMinute_2 : decode cX6_lastMinute 2 = .ok (.istore_n 1, 1) := by decide +kernel
theorem dX6_lastMinute_3 : decode cX6_lastMinute 3 = .ok (.iconst 0, 1) := by decide +kernel
theorem dX6_lastMinute_4 : decode cX6_lastMinute 4 = .ok (.istore_n 2, 1) := by decide +kernel
theorem dX6_lastMinute_5 : decode cX6_lastMinute 5 = .ok (.iload_n 2, 1) := by decide +kernel
theorem dX6_lastMinute_6 : decode cX6_lastMinute 6 = .ok (.bipush 8, 2) := by decide +kernel
theorem dX6_lastMinute_8 : decode cX6_lastMinute 8 = .ok (.if_icmp .ge 68, 3) := by decide +kernel
theorem dX6_lastMinute_11 : decode cX6_lastMinute 11 = .ok (.aload_n 0, 1) := by decide +kernel
theorem dX6_lastMinute_12 : decode cX6_lastMinute 12 = .ok (.iload_n 2, 1) := by decide +kernel
