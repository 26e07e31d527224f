theorem dX6_lastMinute_13 : decode cX6_lastMinute 13 = .ok (.invokevirtual 88, 3) := by decide +kernel
theorem dX6_lastMinute_16 : decode cX6_lastMinute 16 = .ok (.aload_n 0, 1) := by decide +kernel
theorem dX6_lastMinute_17 : decode cX6_lastMinute 17 = .ok (.getfield 82, 3) := by decide +kernel
theorem dX6_lastMinute_20 : decode cX6_lastMinute 20 = .ok (.ifCond .le 28, 3) := by decide +kernel
theorem dX6_lastMinute_23 : decode cX6_lastMinute 23 = .ok (.iload_n 1, 1) := by decide +kernel
theorem dX6_lastMinute_24 : decode cX6_lastMinute 24 = .ok (.bipush (-106), 2) := by decide +kernel
theorem dX6_lastMinute_26 : decode cX6_lastMinute 26 = .ok (.if_icmp .eq 18, 3) := by decide +kernel
theorem dX6_lastMinute_29 : decode cX6_lastMinute 29 = .ok (.aload_n 0, 1) := by decide +kernel
theorem dX6_lastMinute_30 : decode cX6_lastMinute 30 = .ok (.getfield 43, 3) := by decide +kernel
theorem dX6_lastMinute_33 : decode cX6_lastMinute 33 = .ok (.aload_n 0, 1) := by decide +kernel
theorem dX6_lastMinute_34 : decode cX6_lastMinute 34 = .ok (.getfield 82, 3) := by decide +kernel
theorem dX6_lastMinute_37 : decode cX6_lastMinute 37 = .ok (.iconst 1, 1) := by decide +kernel
theorem dX6_lastMinute_38 : decode cX6_lastMinute 38 = .ok (.isub, 1) := by decide +kernel
theorem dX6_lastMinute_39 : decode cX6_lastMinute 39 = .ok (.iaload, 1) := by decide +kernel
theorem dX6_lastMinute_40 : decode cX6_lastMinute 40 = .ok (.iload_n 1, 1) := by decide +kernel
theorem dX6_lastMinute_41 : decode cX6_lastMinute 41 = .ok (.if_icmp .le 7, 3) := by decide +kernel
theorem dX6_lastMinute_44 : decode cX6_lastMinute 44 = .ok (.iconst 1, 1) := by decide +kernel
theorem dX6_lastMinute_45 : decode cX6_lastMinute 45 = .ok (.goto 4, 3) := by decide +kernel
theorem dX6_lastMinute_48 : decode cX6_lastMinute 48 = .ok (.iconst 0, 1) := by decide +kernel
theorem dX6_lastMinute_49 : decode cX6_lastMinute 49 = .ok (.istore_n 3, 1) := by decide +kernel
theorem dX6_lastMinute_50 : decode cX6_lastMinute 50 = .ok (.iload_n 3, 1) := by decide +kernel
theorem dX6_lastMinute_51 : decode cX6_lastMinute 51 = .ok (.ifCond .eq 17, 3) := by decide +kernel
theorem dX6_lastMinute_54 : decode cX6_lastMinute 54 = .ok (.aload_n 0, 1) := by decide +kernel
theorem dX6_lastMinute_55 : decode cX6_lastMinute 55 = .ok (.getfield 43, 3) := by decide +kernel
theorem dX6_lastMinute_58 : decode cX6_lastMinute 58 = .ok (.aload_n 0, 1) := by decide +kernel
theorem dX6_lastMinute_59 : decode cX6_lastMinute 59 = .ok (.getfield 82, 3) := by decide +kernel
theorem dX6_lastMinute_62 : decode cX6_lastMinute 62 = .ok (.iconst 1, 1) := by decide +kernel
theorem dX6_lastMinute_63 : decode cX6_lastMinute 63 = .ok (.isub, 1) := by decide +kernel
theorem dX6_lastMinute_64 : decode cX6_lastMinute 64 = .ok (.iaload, 1) := by decide +kernel
theorem dX6_lastMinute_65 : decode cX6_lastMinute 65 = .ok (.goto 4, 3) := by decide +kernel
theorem dX6_lastMinute_68 : decode cX6_lastMinute 68 = .ok (.iload_n 1, 1) := by decide +kernel
theorem dX6_lastMinute_69 : decode cX6_lastMinute 69 = .ok (.istore_n 1, 1) := by decide +kernel
theorem dX6_lastMinute_70 : decode cX6_lastMinute 70 = .ok (.iinc 2 1, 3) := by decide +kernel
theorem dX6_lastMinute_73 : decode cX6_lastMinute 73 = .ok (.goto (-68), 3) := by decide +kernel
theorem dX6_lastMinute_76 : decode cX6_lastMinute 76 = .ok (.iload_n 1, 1) := by decide +kernel
theorem dX6_lastMinute_77 : decode cX6_lastMinute 77 = .ok (.ireturn, 1) := by decide +kernel
theorem dX6_leastOf_0 : decode cX6_leastOf 0 = .ok (.iload_n 0, 1) := by decide +kernel
theorem dX6_leastOf_1 : decode cX6_leastOf 1 = .ok (.iconst 2, 1) := by decide +kernel
theorem dX6_leastOf_2 : decode cX6_leastOf 2 = .ok (.if_icmp .ne 7, 3) := by decide +kernel
theorem dX6_leastOf_5 : decode cX6_leastOf 5 = .ok (.iconst 1, 1) := by decide +kernel
theorem dX6_leastOf_6 : decode cX6_leastOf 6 = .ok (.goto 4, 3) := by decide +kernel
theorem dX6_leastOf_9 : decode cX6_leastOf 9 = .ok (.iconst 0, 1) := by decide +kernel
theorem dX6_leastOf_10 : decode cX6_leastOf 10 = .ok (.ireturn, 1) := by decide +kernel
theorem dX6_mostOf_0 : decode cX6_mostOf 0 = .ok (.iload_n 0, 1) := by decide +kernel
theorem dX6_mostOf_1 : decode cX6_mostOf 1 = .ok (.tableswitch 45 0 3 #[31, 34, 38, 41], 31) := by decide +kernel
theorem dX6_mostOf_32 : decode cX6_mostOf 32 = .ok (.bipush 90, 2) := by decide +kernel
theorem dX6_mostOf_34 : decode cX6_mostOf 34 = .ok (.ireturn, 1) := by decide +kernel
theorem dX6_mostOf_35 : decode cX6_mostOf 35 = .ok (.sipush 240, 3) := by decide +kernel
theorem dX6_mostOf_38 : decode cX6_mostOf 38 = .ok (.ireturn, 1) := by decide +kernel
theorem dX6_mostOf_39 : decode cX6_mostOf 39 = .ok (.bipush 6, 2) := by decide +kernel
theorem dX6_mostOf_41 : decode cX6_mostOf 41 = .ok (.ireturn, 1) := by decide +kernel
theorem dX6_mostOf_42 : decode cX6_mostOf 42 = .ok (.sipush 300, 3) := by decide +kernel
theorem dX6_mostOf_45 : decode cX6_mostOf 45 = .ok (.ireturn, 1) := by decide +kernel
theorem dX6_mostOf_46 : decode cX6_mostOf 46 = .ok (.bipush 40, 2) := by decide +kernel
theorem dX6_mostOf_48 : decode cX6_mostOf 48 = .ok (.ireturn, 1) := by decide +kernel
theorem dX6_set_0 : decode cX6_set 0 = .ok (.iload_n 1, 1) := by decide +kernel
theorem dX6_set_1 : decode cX6_set 1 = .ok (.iconst 0, 1) := by decide +kernel
theorem dX6_set_2 : decode cX6_set 2 = .ok (.iconst 4, 1) := by decide +kernel
theorem dX6_set_3 : decode cX6_set 3 = .ok (.invokestatic 46, 3) := by decide +kernel
theorem dX6_set_6 : decode cX6_set 6 = .ok (.ifCond .eq 18, 3) := by decide +kernel
theorem dX6_set_9 : decode cX6_set 9 = .ok (.iload_n 2, 1) := by decide +kernel
theorem dX6_set_10 : decode cX6_set 10 = .ok (.iload_n 1, 1) := by decide +kernel
theorem dX6_set_11 : decode cX6_set 11 = .ok (.invokestatic 100, 3) := by decide +kernel
theorem dX6_set_14 : decode cX6_set 14 = .ok (.iload_n 1, 1) := by decide +kernel
theorem dX6_set_15 : decode cX6_set 15 = .ok (.invokestatic 103, 3) := by decide +kernel
theorem dX6_set_18 : decode cX6_set 18 = .ok (.invokestatic 46, 3) := by decide +kernel
theorem dX6_set_21 : decode cX6_set 21 = .ok (.ifCond .ne 6, 3) := by decide +kernel
theorem dX6_set_24 : decode cX6_set 24 = .ok (.bipush (-102), 2) := by decide +kernel
theorem dX6_set_26 : decode cX6_set 26 = .ok (.ireturn, 1) := by decide +kernel
theorem dX6_set_27 : decode cX6_set 27 = .ok (.aload_n 0, 1) := by decide +kernel
theorem dX6_set_28 : decode cX6_set 28 = .ok (.invokevirtual 54, 3) := by decide +kernel
theorem dX6_set_31 : decode cX6_set 31 = .ok (.aload_n 0, 1) := by decide +kernel
theorem dX6_set_32 : decode cX6_set 32 = .ok (.getfield 7, 3) := by decide +kernel
theorem dX6_set_35 : decode cX6_set 35 = .ok (.iload_n 1, 1) := by decide +kernel
theorem dX6_set_36 : decode cX6_set 36 = .ok (.iaload, 1) := by decide +kernel
theorem dX6_set_37 : decode cX6_set 37 = .ok (.istore_n 3, 1) := by decide +kernel
theorem dX6_set_38 : decode cX6_set 38 = .ok (.aload_n 0, 1) := by decide +kernel
theorem dX6_set_39 : decode cX6_set 39 = .ok (.getfield 7, 3) := by decide +kernel
theorem dX6_set_42 : decode cX6_set 42 = .ok (.iload_n 1, 1) := by decide +kernel
theorem dX6_set_43 : decode cX6_set 43 = .ok (.iload_n 2, 1) := by decide +kernel
theorem dX6_set_44 : decode cX6_set 44 = .ok (.iastore, 1) := by decide +kernel
theorem dX6_set_45 : decode cX6_set 45 = .ok (.iload_n 3, 1) := by decide +kernel
theorem dX6_set_46 : decode cX6_set 46 = .ok (.ireturn, 1) := by decide +kernel
theorem dX6_land_0 : decode cX6_land 0 = .ok (.iload_n 1, 1) := by decide +kernel
theorem dX6_land_1 : decode cX6_land 1 = .ok (.invokestatic 106, 3) := by decide +kernel
theorem dX6_land_4 : decode cX6_land 4 = .ok (.ifCond .ne 6, 3) := by decide +kernel
theorem dX6_land_7 : decode cX6_land 7 = .ok (.bipush (-101), 2) := by decide +kernel
theorem dX6_land_9 : decode cX6_land 9 = .ok (.ireturn, 1) := by decide +kernel
theorem dX6_land_10 : decode cX6_land 10 = .ok (.iload_n 2, 1) := by decide +kernel
theorem dX6_land_11 : decode cX6_land 11 = .ok (.iconst 0, 1) := by decide +kernel
theorem dX6_land_12 : decode cX6_land 12 = .ok (.sipush 1200, 3) := by decide +kernel
theorem dX6_land_15 : decode cX6_land 15 = .ok (.invokestatic 46, 3) := by decide +kernel
theorem dX6_land_18 : decode cX6_land 18 = .ok (.ifCond .ne 6, 3) := by decide +kernel
theorem dX6_land_21 : decode cX6_land 21 = .ok (.bipush (-102), 2) := by decide +kernel
theorem dX6_land_23 : decode cX6_land 23 = .ok (.ireturn, 1) := by decide +kernel
theorem dX6_land_24 : decode cX6_land 24 = .ok (.aload_n 0, 1) := by decide +kernel
theorem dX6_land_25 : decode cX6_land 25 = .ok (.invokevirtual 54, 3) := by decide +kernel
theorem dX6_land_28 : decode cX6_land 28 = .ok (.aload_n 0, 1) := by decide +kernel
theorem dX6_land_29 : decode cX6_land 29 = .ok (.getfield 7, 3) := by decide +kernel
theorem dX6_land_32 : decode cX6_land 32 = .ok (.iconst 5, 1) := by decide +kernel
theorem dX6_land_33 : decode cX6_land 33 = .ok (.iload_n 1, 1) := by decide +kernel
theorem dX6_land_34 : decode cX6_land 34 = .ok (.iadd, 1) := by decide +kernel
theorem dX6_land_35 : decode cX6_land 35 = .ok (.iaload, 1) := by decide +kernel
theorem dX6_land_36 : decode cX6_land 36 = .ok (.istore_n 3, 1) := by decide +kernel
theorem dX6_land_37 : decode cX6_land 37 = .ok (.aload_n 0, 1) := by decide +kernel
theorem dX6_land_38 : decode cX6_land 38 = .ok (.getfield 7, 3) := by decide +kernel
theorem dX6_land_41 : decode cX6_land 41 = .ok (.iconst 5, 1) := by decide +kernel
theorem dX6_land_42 : decode cX6_land 42 = .ok (.iload_n 1, 1) := by decide +kernel
theorem dX6_land_43 : decode cX6_land 43 = .ok (.iadd, 1) := by decide +kernel
theorem dX6_land_44 : decode cX6_land 44 = .ok (.iload_n 2, 1) := by decide +kernel
theorem dX6_land_45 : decode cX6_land 45 = .ok (.iastore, 1) := by decide +kernel
theorem dX6_land_46 : decode cX6_land 46 = .ok (.iload_n 3, 1) := by decide +kernel
theorem dX6_land_47 : decode cX6_land 47 = .ok (.ireturn, 1) := by decide +kernel
theorem dX6_delay_0 : decode cX6_delay 0 = .ok (.iload_n 1, 1) := by decide +kernel
theorem dX6_delay_1 : decode cX6_delay 1 = .ok (.invokestatic 106, 3) := by decide +kernel
theorem dX6_delay_4 : decode cX6_delay 4 = .ok (.ifCond .ne 6, 3) := by decide +kernel
theorem dX6_delay_7 : decode cX6_delay 7 = .ok (.bipush (-101), 2) := by decide +kernel
theorem dX6_delay_9 : decode cX6_delay 9 = .ok (.ireturn, 1) := by decide +kernel
theorem dX6_delay_10 : decode cX6_delay 10 = .ok (.iload_n 2, 1) := by decide +kernel
theorem dX6_delay_11 : decode cX6_delay 11 = .ok (.bipush (-30), 2) := by decide +kernel
theorem dX6_delay_13 : decode cX6_delay 13 = .ok (.sipush 300, 3) := by decide +kernel
theorem dX6_delay_16 : decode cX6_delay 16 = .ok (.invokestatic 46, 3) := by decide +kernel
theorem dX6_delay_19 : decode cX6_delay 19 = .ok (.ifCond .ne 6, 3) := by decide +kernel
theorem dX6_delay_22 : decode cX6_delay 22 = .ok (.bipush (-102), 2) := by decide +kernel
theorem dX6_delay_24 : decode cX6_delay 24 = .ok (.ireturn, 1) := by decide +kernel
theorem dX6_delay_25 : decode cX6_delay 25 = .ok (.aload_n 0, 1) := by decide +kernel
theorem dX6_delay_26 : decode cX6_delay 26 = .ok (.invokevirtual 54, 3) := by decide +kernel
theorem dX6_delay_29 : decode cX6_delay 29 = .ok (.aload_n 0, 1) := by decide +kernel
theorem dX6_delay_30 : decode cX6_delay 30 = .ok (.getfield 7, 3) := by decide +kernel
theorem dX6_delay_33 : decode cX6_delay 33 = .ok (.bipush 11, 2) := by decide +kernel
theorem dX6_delay_35 : decode cX6_delay 35 = .ok (.iload_n 1, 1) := by decide +kernel
theorem dX6_delay_36 : decode cX6_delay 36 = .ok (.iadd, 1) := by decide +kernel
theorem dX6_delay_37 : decode cX6_delay 37 = .ok (.iload_n 2, 1) := by decide +kernel
theorem dX6_delay_38 : decode cX6_delay 38 = .ok (.iastore, 1) := by decide +kernel
theorem dX6_delay_39 : decode cX6_delay 39 = .ok (.aload_n 0, 1) := by decide +kernel
theorem dX6_delay_40 : decode cX6_delay 40 = .ok (.iload_n 1, 1) := by decide +kernel
theorem dX6_delay_41 : decode cX6_delay 41 = .ok (.invokevirtual 61, 3) := by decide +kernel
theorem dX6_delay_44 : decode cX6_delay 44 = .ok (.ireturn, 1) := by decide +kernel
theorem dX6_van_0 : decode cX6_van 0 = .ok (.iload_n 1, 1) := by decide +kernel
theorem dX6_van_1 : decode cX6_van 1 = .ok (.invokestatic 110, 3) := by decide +kernel
theorem dX6_van_4 : decode cX6_van 4 = .ok (.ifCond .ne 6, 3) := by decide +kernel
theorem dX6_van_7 : decode cX6_van 7 = .ok (.bipush (-101), 2) := by decide +kernel
theorem dX6_van_9 : decode cX6_van 9 = .ok (.ireturn, 1) := by decide +kernel
theorem dX6_van_10 : decode cX6_van 10 = .ok (.iload_n 2, 1) := by decide +kernel
theorem dX6_van_11 : decode cX6_van 11 = .ok (.iconst 0, 1) := by decide +kernel
theorem dX6_van_12 : decode cX6_van 12 = .ok (.sipush 1500, 3) := by decide +kernel
theorem dX6_van_15 : decode cX6_van 15 = .ok (.invokestatic 46, 3) := by decide +kernel
theorem dX6_van_18 : decode cX6_van 18 = .ok (.ifCond .eq 13, 3) := by decide +kernel
theorem dX6_van_21 : decode cX6_van 21 = .ok (.iload_n 3, 1) := by decide +kernel
theorem dX6_van_22 : decode cX6_van 22 = .ok (.iconst 0, 1) := by decide +kernel
theorem dX6_van_23 : decode cX6_van 23 = .ok (.bipush 12, 2) := by decide +kernel
theorem dX6_van_25 : decode cX6_van 25 = .ok (.invokestatic 46, 3) := by decide +kernel
theorem dX6_van_28 : decode cX6_van 28 = .ok (.ifCond .ne 6, 3) := by decide +kernel
theorem dX6_van_31 : decode cX6_van 31 = .ok (.bipush (-102), 2) := by decide +kernel
theorem dX6_van_33 : decode cX6_van 33 = .ok (.ireturn, 1) := by decide +kernel
theorem dX6_van_34 : decode cX6_van 34 = .ok (.aload_n 0, 1) := by decide +kernel
theorem dX6_van_35 : decode cX6_van 35 = .ok (.invokevirtual 54, 3) := by decide +kernel
theorem dX6_van_38 : decode cX6_van 38 = .ok (.aload_n 0, 1) := by decide +kernel
theorem dX6_van_39 : decode cX6_van 39 = .ok (.getfield 7, 3) := by decide +kernel
theorem dX6_van_42 : decode cX6_van 42 = .ok (.bipush 17, 2) := by decide +kernel
theorem dX6_van_44 : decode cX6_van 44 = .ok (.iload_n 1, 1) := by decide +kernel
theorem dX6_van_45 : decode cX6_van 45 = .ok (.iadd, 1) := by decide +kernel
theorem dX6_van_46 : decode cX6_van 46 = .ok (.iload_n 2, 1) := by decide +kernel
theorem dX6_van_47 : decode cX6_van 47 = .ok (.iastore, 1) := by decide +kernel
theorem dX6_van_48 : decode cX6_van 48 = .ok (.aload_n 0, 1) := by decide +kernel
theorem dX6_van_49 : decode cX6_van 49 = .ok (.getfield 7, 3) := by decide +kernel
theorem dX6_van_52 : decode cX6_van 52 = .ok (.bipush 25, 2) := by decide +kernel
theorem dX6_van_54 : decode cX6_van 54 = .ok (.iload_n 1, 1) := by decide +kernel
theorem dX6_van_55 : decode cX6_van 55 = .ok (.iadd, 1) := by decide +kernel
theorem dX6_van_56 : decode cX6_van 56 = .ok (.iload_n 3, 1) := by decide +kernel
theorem dX6_van_57 : decode cX6_van 57 = .ok (.iastore, 1) := by decide +kernel
theorem dX6_van_58 : decode cX6_van 58 = .ok (.aload_n 0, 1) := by decide +kernel
theorem dX6_van_59 : decode cX6_van 59 = .ok (.invokevirtual 113, 3) := by decide +kernel
theorem dX6_van_62 : decode cX6_van 62 = .ok (.aload_n 0, 1) := by decide +kernel
theorem dX6_van_63 : decode cX6_van 63 = .ok (.invokevirtual 116, 3) := by decide +kernel
theorem dX6_van_66 : decode cX6_van 66 = .ok (.ireturn, 1) := by decide +kernel
theorem dX6_add_0 : decode cX6_add 0 = .ok (.bipush 34, 2) := by decide +kernel
theorem dX6_add_2 : decode cX6_add 2 = .ok (.iconst 4, 1) := by decide +kernel
theorem dX6_add_3 : decode cX6_add 3 = .ok (.aload_n 0, 1) := by decide +kernel
theorem dX6_add_4 : decode cX6_add 4 = .ok (.getfield 7, 3) := by decide +kernel
theorem dX6_add_7 : decode cX6_add 7 = .ok (.bipush 33, 2) := by decide +kernel
theorem dX6_add_9 : decode cX6_add 9 = .ok (.iaload, 1) := by decide +kernel
theorem dX6_add_10 : decode cX6_add 10 = .ok (.imul, 1) := by decide +kernel
theorem dX6_add_11 : decode cX6_add 11 = .ok (.iadd, 1) := by decide +kernel
theorem dX6_add_12 : decode cX6_add 12 = .ok (.istore 5, 2) := by decide +kernel
theorem dX6_add_14 : decode cX6_add 14 = .ok (.aload_n 0, 1) := by decide +kernel
theorem dX6_add_15 : decode cX6_add 15 = .ok (.getfield 7, 3) := by decide +kernel
theorem dX6_add_18 : decode cX6_add 18 = .ok (.iload 5, 2) := by decide +kernel
theorem dX6_add_20 : decode cX6_add 20 = .ok (.iconst 0, 1) := by decide +kernel
theorem dX6_add_21 : decode cX6_add 21 = .ok (.iadd, 1) := by decide +kernel
theorem dX6_add_22 : decode cX6_add 22 = .ok (.iload_n 1, 1) := by decide +kernel
theorem dX6_add_23 : decode cX6_add 23 = .ok (.iastore, 1) := by decide +kernel
theorem dX6_add_24 : decode cX6_add 24 = .ok (.aload_n 0, 1) := by decide +kernel
theorem dX6_add_25 : decode cX6_add 25 = .ok (.getfield 7, 3) := by decide +kernel
theorem dX6_add_28 : decode cX6_add 28 = .ok (.iload 5, 2) := by decide +kernel
theorem dX6_add_30 : decode cX6_add 30 = .ok (.iconst 1, 1) := by decide +kernel
theorem dX6_add_31 : decode cX6_add 31 = .ok (.iadd, 1) := by decide +kernel
theorem dX6_add_32 : decode cX6_add 32 = .ok (.iload_n 2, 1) := by decide +kernel
theorem dX6_add_33 : decode cX6_add 33 = .ok (.iastore, 1) := by decide +kernel
theorem dX6_add_34 : decode cX6_add 34 = .ok (.aload_n 0, 1) := by decide +kernel
theorem dX6_add_35 : decode cX6_add 35 = .ok (.getfield 7, 3) := by decide +kernel
theorem dX6_add_38 : decode cX6_add 38 = .ok (.iload 5, 2) := by decide +kernel
theorem dX6_add_40 : decode cX6_add 40 = .ok (.iconst 2, 1) := by decide +kernel
theorem dX6_add_41 : decode cX6_add 41 = .ok (.iadd, 1) := by decide +kernel
theorem dX6_add_42 : decode cX6_add 42 = .ok (.iload_n 3, 1) := by decide +kernel
theorem dX6_add_43 : decode cX6_add 43 = .ok (.iastore, 1) := by decide +kernel
theorem dX6_add_44 : decode cX6_add 44 = .ok (.aload_n 0, 1) := by decide +kernel
theorem dX6_add_45 : decode cX6_add 45 = .ok (.getfield 7, 3) := by decide +kernel
theorem dX6_add_48 : decode cX6_add 48 = .ok (.iload 5, 2) := by decide +kernel
theorem dX6_add_50 : decode cX6_add 50 = .ok (.iconst 3, 1) := by decide +kernel
theorem dX6_add_51 : decode cX6_add 51 = .ok (.iadd, 1) := by decide +kernel
theorem dX6_add_52 : decode cX6_add 52 = .ok (.iload 4, 2) := by decide +kernel
theorem dX6_add_54 : decode cX6_add 54 = .ok (.iastore, 1) := by decide +kernel
theorem dX6_add_55 : decode cX6_add 55 = .ok (.aload_n 0, 1) := by decide +kernel
theorem dX6_add_56 : decode cX6_add 56 = .ok (.getfield 7, 3) := by decide +kernel
theorem dX6_add_59 : decode cX6_add 59 = .ok (.bipush 33, 2) := by decide +kernel
theorem dX6_add_61 : decode cX6_add 61 = .ok (.dup2, 1) := by decide +kernel
theorem dX6_add_62 : decode cX6_add 62 = .ok (.iaload, 1) := by decide +kernel
theorem dX6_add_63 : decode cX6_add 63 = .ok (.iconst 1, 1) := by decide +kernel
theorem dX6_add_64 : decode cX6_add 64 = .ok (.iadd, 1) := by decide +kernel
theorem dX6_add_65 : decode cX6_add 65 = .ok (.iastore, 1) := by decide +kernel
theorem dX6_add_66 : decode cX6_add 66 = .ok (.return_, 1) := by decide +kernel
theorem dX6_ride_0 : decode cX6_ride 0 = .ok (.iload_n 1, 1) := by decide +kernel
theorem dX6_ride_1 : decode cX6_ride 1 = .ok (.invokestatic 106, 3) := by decide +kernel
theorem dX6_ride_4 : decode cX6_ride 4 = .ok (.ifCond .eq 12, 3) := by decide +kernel
theorem dX6_ride_7 : decode cX6_ride 7 = .ok (.iload_n 2, 1) := by decide +kernel
theorem dX6_ride_8 : decode cX6_ride 8 = .ok (.iconst 0, 1) := by decide +kernel
theorem dX6_ride_9 : decode cX6_ride 9 = .ok (.iconst 5, 1) := by decide +kernel
theorem dX6_ride_10 : decode cX6_ride 10 = .ok (.invokestatic 46, 3) := by decide +kernel
theorem dX6_ride_13 : decode cX6_ride 13 = .ok (.ifCond .ne 6, 3) := by decide +kernel
theorem dX6_ride_16 : decode cX6_ride 16 = .ok (.bipush (-101), 2) := by decide +kernel
theorem dX6_ride_18 : decode cX6_ride 18 = .ok (.ireturn, 1) := by decide +kernel
theorem dX6_ride_19 : decode cX6_ride 19 = .ok (.iload_n 3, 1) := by decide +kernel
theorem dX6_ride_20 : decode cX6_ride 20 = .ok (.iconst 0, 1) := by decide +kernel
theorem dX6_ride_21 : decode cX6_ride 21 = .ok (.bipush 99, 2) := by decide +kernel
theorem dX6_ride_23 : decode cX6_ride 23 = .ok (.invokestatic 46, 3) := by decide +kernel
theorem dX6_ride_26 : decode cX6_ride 26 = .ok (.ifCond .eq 13, 3) := by decide +kernel
theorem dX6_ride_29 : decode cX6_ride 29 = .ok (.iload 4, 2) := by decide +kernel
theorem dX6_ride_31 : decode cX6_ride 31 = .ok (.iconst 1, 1) := by decide +kernel
theorem dX6_ride_32 : decode cX6_ride 32 = .ok (.iconst 4, 1) := by decide +kernel
theorem dX6_ride_33 : decode cX6_ride 33 = .ok (.invokestatic 46, 3) := by decide +kernel
theorem dX6_ride_36 : decode cX6_ride 36 = .ok (.ifCond .ne 6, 3) := by decide +kernel
theorem dX6_ride_39 : decode cX6_ride 39 = .ok (.bipush (-102), 2) := by decide +kernel
theorem dX6_ride_41 : decode cX6_ride 41 = .ok (.ireturn, 1) := by decide +kernel
theorem dX6_ride_42 : decode cX6_ride 42 = .ok (.aload_n 0, 1) := by decide +kernel
theorem dX6_ride_43 : decode cX6_ride 43 = .ok (.getfield 7, 3) := by decide +kernel
theorem dX6_ride_46 : decode cX6_ride 46 = .ok (.bipush 33, 2) := by decide +kernel
theorem dX6_ride_48 : decode cX6_ride 48 = .ok (.iaload, 1) := by decide +kernel
theorem dX6_ride_49 : decode cX6_ride 49 = .ok (.bipush 24, 2) := by decide +kernel
theorem dX6_ride_51 : decode cX6_ride 51 = .ok (.if_icmp .ne 6, 3) := by decide +kernel
theorem dX6_ride_54 : decode cX6_ride 54 = .ok (.bipush (-104), 2) := by decide +kernel
theorem dX6_ride_56 : decode cX6_ride 56 = .ok (.ireturn, 1) := by decide +kernel
theorem dX6_ride_57 : decode cX6_ride 57 = .ok (.aload_n 0, 1) := by decide +kernel
theorem dX6_ride_58 : decode cX6_ride 58 = .ok (.invokevirtual 54, 3) := by decide +kernel
theorem dX6_ride_61 : decode cX6_ride 61 = .ok (.aload_n 0, 1) := by decide +kernel
theorem dX6_ride_62 : decode cX6_ride 62 = .ok (.iload_n 1, 1) := by decide +kernel
theorem dX6_ride_63 : decode cX6_ride 63 = .ok (.iload_n 2, 1) := by decide +kernel
theorem dX6_ride_64 : decode cX6_ride 64 = .ok (.iload_n 3, 1) := by decide +kernel
theorem dX6_ride_65 : decode cX6_ride 65 = .ok (.iload 4, 2) := by decide +kernel
theorem dX6_ride_67 : decode cX6_ride 67 = .ok (.invokevirtual 119, 3) := by decide +kernel
theorem dX6_ride_70 : decode cX6_ride 70 = .ok (.aload_n 0, 1) := by decide +kernel
theorem dX6_ride_71 : decode cX6_ride 71 = .ok (.getfield 7, 3) := by decide +kernel
theorem dX6_ride_74 : decode cX6_ride 74 = .ok (.bipush 33, 2) := by decide +kernel
theorem dX6_ride_76 : decode cX6_ride 76 = .ok (.iaload, 1) := by decide +kernel
theorem dX6_ride_77 : decode cX6_ride 77 = .ok (.iconst 1, 1) := by decide +kernel
theorem dX6_ride_78 : decode cX6_ride 78 = .ok (.isub, 1) := by decide +kernel
theorem dX6_ride_79 : decode cX6_ride 79 = .ok (.ireturn, 1) := by decide +kernel
theorem dX6_cancel_0 : decode cX6_cancel 0 = .ok (.aload_n 0, 1) := by decide +kernel
theorem dX6_cancel_1 : decode cX6_cancel 1 = .ok (.iload_n 1, 1) := by decide +kernel
theorem dX6_cancel_2 : decode cX6_cancel 2 = .ok (.invokevirtual 123, 3) := by decide +kernel
theorem dX6_cancel_5 : decode cX6_cancel 5 = .ok (.ifCond .ne 6, 3) := by decide +kernel
theorem dX6_cancel_8 : decode cX6_cancel 8 = .ok (.bipush (-101), 2) := by decide +kernel
theorem dX6_cancel_10 : decode cX6_cancel 10 = .ok (.ireturn, 1) := by decide +kernel
theorem dX6_cancel_11 : decode cX6_cancel 11 = .ok (.aload_n 0, 1) := by decide +kernel
theorem dX6_cancel_12 : decode cX6_cancel 12 = .ok (.invokevirtual 113, 3) := by decide +kernel
theorem dX6_cancel_15 : decode cX6_cancel 15 = .ok (.aload_n 0, 1) := by decide +kernel
theorem dX6_cancel_16 : decode cX6_cancel 16 = .ok (.iload_n 1, 1) := by decide +kernel
theorem dX6_cancel_17 : decode cX6_cancel 17 = .ok (.invokevirtual 126, 3) := by decide +kernel
theorem dX6_cancel_20 : decode cX6_cancel 20 = .ok (.istore_n 2, 1) := by decide +kernel
theorem dX6_cancel_21 : decode cX6_cancel 21 = .ok (.aload_n 0, 1) := by decide +kernel
theorem dX6_cancel_22 : decode cX6_cancel 22 = .ok (.invokevirtual 54, 3) := by decide +kernel
theorem dX6_cancel_25 : decode cX6_cancel 25 = .ok (.aload_n 0, 1) := by decide +kernel
theorem dX6_cancel_26 : decode cX6_cancel 26 = .ok (.getfield 7, 3) := by decide +kernel
theorem dX6_cancel_29 : decode cX6_cancel 29 = .ok (.bipush 33, 2) := by decide +kernel
theorem dX6_cancel_31 : decode cX6_cancel 31 = .ok (.dup2, 1) := by decide +kernel
theorem dX6_cancel_32 : decode cX6_cancel 32 = .ok (.iaload, 1) := by decide +kernel
theorem dX6_cancel_33 : decode cX6_cancel 33 = .ok (.iconst 1, 1) := by decide +kernel
theorem dX6_cancel_34 : decode cX6_cancel 34 = .ok (.isub, 1) := by decide +kernel
theorem dX6_cancel_35 : decode cX6_cancel 35 = .ok (.iastore, 1) := by decide +kernel
theorem dX6_cancel_36 : decode cX6_cancel 36 = .ok (.bipush 34, 2) := by decide +kernel
theorem dX6_cancel_38 : decode cX6_cancel 38 = .ok (.iconst 4, 1) := by decide +kernel
theorem dX6_cancel_39 : decode cX6_cancel 39 = .ok (.iload_n 1, 1) := by decide +kernel
theorem dX6_cancel_40 : decode cX6_cancel 40 = .ok (.imul, 1) := by decide +kernel
theorem dX6_cancel_41 : decode cX6_cancel 41 = .ok (.iadd, 1) := by decide +kernel
theorem dX6_cancel_42 : decode cX6_cancel 42 = .ok (.istore_n 3, 1) := by decide +kernel
theorem dX6_cancel_43 : decode cX6_cancel 43 = .ok (.iload_n 3, 1) := by decide +kernel
theorem dX6_cancel_44 : decode cX6_cancel 44 = .ok (.bipush 34, 2) := by decide +kernel
theorem dX6_cancel_46 : decode cX6_cancel 46 = .ok (.iconst 4, 1) := by decide +kernel
theorem dX6_cancel_47 : decode cX6_cancel 47 = .ok (.aload_n 0, 1) := by decide +kernel
theorem dX6_cancel_48 : decode cX6_cancel 48 = .ok (.getfield 7, 3) := by decide +kernel
theorem dX6_cancel_51 : decode cX6_cancel 51 = .ok (.bipush 33, 2) := by decide +kernel
theorem dX6_cancel_53 : decode cX6_cancel 53 = .ok (.iaload, 1) := by decide +kernel
theorem dX6_cancel_54 : decode cX6_cancel 54 = .ok (.imul, 1) := by decide +kernel
theorem dX6_cancel_55 : decode cX6_cancel 55 = .ok (.iadd, 1) := by decide +kernel
theorem dX6_cancel_56 : decode cX6_cancel 56 = .ok (.if_icmp .ge 23, 3) := by decide +kernel
theorem dX6_cancel_59 : decode cX6_cancel 59 = .ok (.aload_n 0, 1) := by decide +kernel
theorem dX6_cancel_60 : decode cX6_cancel 60 = .ok (.getfield 7, 3) := by decide +kernel
theorem dX6_cancel_63 : decode cX6_cancel 63 = .ok (.iload_n 3, 1) := by decide +kernel
theorem dX6_cancel_64 : decode cX6_cancel 64 = .ok (.aload_n 0, 1) := by decide +kernel
theorem dX6_cancel_65 : decode cX6_cancel 65 = .ok (.getfield 7, 3) := by decide +kernel
theorem dX6_cancel_68 : decode cX6_cancel 68 = .ok (.iload_n 3, 1) := by decide +kernel
theorem dX6_cancel_69 : decode cX6_cancel 69 = .ok (.iconst 4, 1) := by decide +kernel
theorem dX6_cancel_70 : decode cX6_cancel 70 = .ok (.iadd, 1) := by decide +kernel
theorem dX6_cancel_71 : decode cX6_cancel 71 = .ok (.iaload, 1) := by decide +kernel
theorem dX6_cancel_72 : decode cX6_cancel 72 = .ok (.iastore, 1) := by decide +kernel
theorem dX6_cancel_73 : decode cX6_cancel 73 = .ok (.iinc 3 1, 3) := by decide +kernel
theorem dX6_cancel_76 : decode cX6_cancel 76 = .ok (.goto (-33), 3) := by decide +kernel
theorem dX6_cancel_79 : decode cX6_cancel 79 = .ok (.iload_n 2, 1) := by decide +kernel
theorem dX6_cancel_80 : decode cX6_cancel 80 = .ok (.ireturn, 1) := by decide +kernel
theorem dX6_rebook_0 : decode cX6_rebook 0 = .ok (.aload_n 0, 1) := by decide +kernel
theorem dX6_rebook_1 : decode cX6_rebook 1 = .ok (.iload_n 1, 1) := by decide +kernel
theorem dX6_rebook_2 : decode cX6_rebook 2 = .ok (.invokevirtual 123, 3) := by decide +kernel
theorem dX6_rebook_5 : decode cX6_rebook 5 = .ok (.ifCond .eq 10, 3) := by decide +kernel
theorem dX6_rebook_8 : decode cX6_rebook 8 = .ok (.iload_n 2, 1) := by decide +kernel
theorem dX6_rebook_9 : decode cX6_rebook 9 = .ok (.invokestatic 106, 3) := by decide +kernel
theorem dX6_rebook_12 : decode cX6_rebook 12 = .ok (.ifCond .ne 6, 3) := by decide +kernel
theorem dX6_rebook_15 : decode cX6_rebook 15 = .ok (.bipush (-101), 2) := by decide +kernel
theorem dX6_rebook_17 : decode cX6_rebook 17 = .ok (.ireturn, 1) := by decide +kernel
theorem dX6_rebook_18 : decode cX6_rebook 18 = .ok (.aload_n 0, 1) := by decide +kernel
theorem dX6_rebook_19 : decode cX6_rebook 19 = .ok (.iload_n 1, 1) := by decide +kernel
theorem dX6_rebook_20 : decode cX6_rebook 20 = .ok (.iconst 0, 1) := by decide +kernel
theorem dX6_rebook_21 : decode cX6_rebook 21 = .ok (.invokevirtual 57, 3) := by decide +kernel
theorem dX6_rebook_24 : decode cX6_rebook 24 = .ok (.iload_n 2, 1) := by decide +kernel
theorem dX6_rebook_25 : decode cX6_rebook 25 = .ok (.if_icmp .ne 6, 3) := by decide +kernel
theorem dX6_rebook_28 : decode cX6_rebook 28 = .ok (.bipush (-105), 2) := by decide +kernel
theorem dX6_rebook_30 : decode cX6_rebook 30 = .ok (.ireturn, 1) := by decide +kernel
theorem dX6_rebook_31 : decode cX6_rebook 31 = .ok (.aload_n 0, 1) := by decide +kernel
theorem dX6_rebook_32 : decode cX6_rebook 32 = .ok (.invokevirtual 54, 3) := by decide +kernel
theorem dX6_rebook_35 : decode cX6_rebook 35 = .ok (.aload_n 0, 1) := by decide +kernel
theorem dX6_rebook_36 : decode cX6_rebook 36 = .ok (.getfield 7, 3) := by decide +kernel
theorem dX6_rebook_39 : decode cX6_rebook 39 = .ok (.bipush 34, 2) := by decide +kernel
theorem dX6_rebook_41 : decode cX6_rebook 41 = .ok (.iconst 4, 1) := by decide +kernel
theorem dX6_rebook_42 : decode cX6_rebook 42 = .ok (.iload_n 1, 1) := by decide +kernel
theorem dX6_rebook_43 : decode cX6_rebook 43 = .ok (.imul, 1) := by decide +kernel
theorem dX6_rebook_44 : decode cX6_rebook 44 = .ok (.iadd, 1) := by decide +kernel
theorem dX6_rebook_45 : decode cX6_rebook 45 = .ok (.iconst 0, 1) := by decide +kernel
theorem dX6_rebook_46 : decode cX6_rebook 46 = .ok (.iadd, 1) := by decide +kernel
theorem dX6_rebook_47 : decode cX6_rebook 47 = .ok (.iload_n 2, 1) := by decide +kernel
theorem dX6_rebook_48 : decode cX6_rebook 48 = .ok (.iastore, 1) := by decide +kernel
theorem dX6_rebook_49 : decode cX6_rebook 49 = .ok (.aload_n 0, 1) := by decide +kernel
theorem dX6_rebook_50 : decode cX6_rebook 50 = .ok (.invokevirtual 113, 3) := by decide +kernel
theorem dX6_rebook_53 : decode cX6_rebook 53 = .ok (.aload_n 0, 1) := by decide +kernel
theorem dX6_rebook_54 : decode cX6_rebook 54 = .ok (.getfield 28, 3) := by decide +kernel
theorem dX6_rebook_57 : decode cX6_rebook 57 = .ok (.iload_n 1, 1) := by decide +kernel
theorem dX6_rebook_58 : decode cX6_rebook 58 = .ok (.iaload, 1) := by decide +kernel
theorem dX6_rebook_59 : decode cX6_rebook 59 = .ok (.ireturn, 1) := by decide +kernel
theorem dX6_sharing_0 : decode cX6_sharing 0 = .ok (.iconst 0, 1) := by decide +kernel
theorem dX6_sharing_1 : decode cX6_sharing 1 = .ok (.istore_n 2, 1) := by decide +kernel
theorem dX6_sharing_2 : decode cX6_sharing 2 = .ok (.iconst 0, 1) := by decide +kernel
theorem dX6_sharing_3 : decode cX6_sharing 3 = .ok (.istore_n 3, 1) := by decide +kernel
theorem dX6_sharing_4 : decode cX6_sharing 4 = .ok (.iload_n 3, 1) := by decide +kernel
theorem dX6_sharing_5 : decode cX6_sharing 5 = .ok (.aload_n 0, 1) := by decide +kernel
theorem dX6_sharing_6 : decode cX6_sharing 6 = .ok (.getfield 7, 3) := by decide +kernel
theorem dX6_sharing_9 : decode cX6_sharing 9 = .ok (.bipush 33, 2) := by decide +kernel
theorem dX6_sharing_11 : decode cX6_sharing 11 = .ok (.iaload, 1) := by decide +kernel
theorem dX6_sharing_12 : decode cX6_sharing 12 = .ok (.if_icmp .ge 32, 3) := by decide +kernel
theorem dX6_sharing_15 : decode cX6_sharing 15 = .ok (.iload_n 2, 1) := by decide +kernel
theorem dX6_sharing_16 : decode cX6_sharing 16 = .ok (.iload_n 3, 1) := by decide +kernel
theorem dX6_sharing_17 : decode cX6_sharing 17 = .ok (.iload_n 1, 1) := by decide +kernel
theorem dX6_sharing_18 : decode cX6_sharing 18 = .ok (.if_icmp .eq 17, 3) := by decide +kernel
theorem dX6_sharing_21 : decode cX6_sharing 21 = .ok (.aload_n 0, 1) := by decide +kernel
theorem dX6_sharing_22 : decode cX6_sharing 22 = .ok (.iload_n 3, 1) := by decide +kernel
theorem dX6_sharing_23 : decode cX6_sharing 23 = .ok (.iload_n 1, 1) := by decide +kernel
theorem dX6_sharing_24 : decode cX6_sharing 24 = .ok (.iconst 1, 1) := by decide +kernel
theorem dX6_sharing_25 : decode cX6_sharing 25 = .ok (.invokevirtual 92, 3) := by decide +kernel
theorem dX6_sharing_28 : decode cX6_sharing 28 = .ok (.ifCond .eq 7, 3) := by decide +kernel
theorem dX6_sharing_31 : decode cX6_sharing 31 = .ok (.iconst 1, 1) := by decide +kernel
theorem dX6_sharing_32 : decode cX6_sharing 32 = .ok (.goto 4, 3) := by decide +kernel
theorem dX6_sharing_35 : decode cX6_sharing 35 = .ok (.iconst 0, 1) := by decide +kernel
theorem dX6_sharing_36 : decode cX6_sharing 36 = .ok (.iadd, 1) := by decide +kernel
theorem dX6_sharing_37 : decode cX6_sharing 37 = .ok (.istore_n 2, 1) := by decide +kernel
theorem dX6_sharing_38 : decode cX6_sharing 38 = .ok (.iinc 3 1, 3) := by decide +kernel
theorem dX6_sharing_41 : decode cX6_sharing 41 = .ok (.goto (-37), 3) := by decide +kernel
theorem dX6_sharing_44 : decode cX6_sharing 44 = .ok (.iload_n 2, 1) := by decide +kernel
theorem dX6_sharing_45 : decode cX6_sharing 45 = .ok (.ireturn, 1) := by decide +kernel
theorem dX6_tellsDriven_0 : decode cX6_tellsDriven 0 = .ok (.aload_n 0, 1) := by decide +kernel
theorem dX6_tellsDriven_1 : decode cX6_tellsDriven 1 = .ok (.getfield 28, 3) := by decide +kernel
theorem dX6_tellsDriven_4 : decode cX6_tellsDriven 4 = .ok (.iload_n 1, 1) := by decide +kernel
theorem dX6_tellsDriven_5 : decode cX6_tellsDriven 5 = .ok (.iaload, 1) := by decide +kernel
theorem dX6_tellsDriven_6 : decode cX6_tellsDriven 6 = .ok (.istore_n 3, 1) := by decide +kernel
theorem dX6_tellsDriven_7 : decode cX6_tellsDriven 7 = .ok (.iload_n 2, 1) := by decide +kernel
theorem dX6_tellsDriven_8 : decode cX6_tellsDriven 8 = .ok (.bipush 6, 2) := by decide +kernel
theorem dX6_tellsDriven_10 : decode cX6_tellsDriven 10 = .ok (.if_icmp .ne 21, 3) := by decide +kernel
theorem dX6_tellsDriven_13 : decode cX6_tellsDriven 13 = .ok (.aload_n 0, 1) := by decide +kernel
theorem dX6_tellsDriven_14 : decode cX6_tellsDriven 14 = .ok (.getfield 7, 3) := by decide +kernel
theorem dX6_tellsDriven_17 : decode cX6_tellsDriven 17 = .ok (.bipush 17, 2) := by decide +kernel
theorem dX6_tellsDriven_19 : decode cX6_tellsDriven 19 = .ok (.iload_n 3, 1) := by decide +kernel
theorem dX6_tellsDriven_20 : decode cX6_tellsDriven 20 = .ok (.iadd, 1) := by decide +kernel
theorem dX6_tellsDriven_21 : decode cX6_tellsDriven 21 = .ok (.iaload, 1) := by decide +kernel
theorem dX6_tellsDriven_22 : decode cX6_tellsDriven 22 = .ok (.aload_n 0, 1) := by decide +kernel
theorem dX6_tellsDriven_23 : decode cX6_tellsDriven 23 = .ok (.iload_n 1, 1) := by decide +kernel
theorem dX6_tellsDriven_24 : decode cX6_tellsDriven 24 = .ok (.invokevirtual 65, 3) := by decide +kernel
theorem dX6_tellsDriven_27 : decode cX6_tellsDriven 27 = .ok (.isub, 1) := by decide +kernel
theorem dX6_tellsDriven_28 : decode cX6_tellsDriven 28 = .ok (.goto 27, 3) := by decide +kernel
theorem dX6_tellsDriven_31 : decode cX6_tellsDriven 31 = .ok (.iload_n 2, 1) := by decide +kernel
theorem dX6_tellsDriven_32 : decode cX6_tellsDriven 32 = .ok (.bipush 7, 2) := by decide +kernel
theorem dX6_tellsDriven_34 : decode cX6_tellsDriven 34 = .ok (.if_icmp .ne 16, 3) := by decide +kernel
theorem dX6_tellsDriven_37 : decode cX6_tellsDriven 37 = .ok (.aload_n 0, 1) := by decide +kernel
theorem dX6_tellsDriven_38 : decode cX6_tellsDriven 38 = .ok (.iload_n 3, 1) := by decide +kernel
theorem dX6_tellsDriven_39 : decode cX6_tellsDriven 39 = .ok (.aload_n 0, 1) := by decide +kernel
theorem dX6_tellsDriven_40 : decode cX6_tellsDriven 40 = .ok (.iload_n 1, 1) := by decide +kernel
theorem dX6_tellsDriven_41 : decode cX6_tellsDriven 41 = .ok (.invokevirtual 85, 3) := by decide +kernel
theorem dX6_tellsDriven_44 : decode cX6_tellsDriven 44 = .ok (.invokevirtual 129, 3) := by decide +kernel
theorem dX6_tellsDriven_47 : decode cX6_tellsDriven 47 = .ok (.goto 8, 3) := by decide +kernel
theorem dX6_tellsDriven_50 : decode cX6_tellsDriven 50 = .ok (.aload_n 0, 1) := by decide +kernel
theorem dX6_tellsDriven_51 : decode cX6_tellsDriven 51 = .ok (.iload_n 1, 1) := by decide +kernel
theorem dX6_tellsDriven_52 : decode cX6_tellsDriven 52 = .ok (.invokevirtual 132, 3) := by decide +kernel
theorem dX6_tellsDriven_55 : decode cX6_tellsDriven 55 = .ok (.ireturn, 1) := by decide +kernel
theorem dX6_rider_0 : decode cX6_rider 0 = .ok (.aload_n 0, 1) := by decide +kernel
theorem dX6_rider_1 : decode cX6_rider 1 = .ok (.iload_n 1, 1) := by decide +kernel
theorem dX6_rider_2 : decode cX6_rider 2 = .ok (.invokevirtual 123, 3) := by decide +kernel
theorem dX6_rider_5 : decode cX6_rider 5 = .ok (.ifCond .ne 6, 3) := by decide +kernel
theorem dX6_rider_8 : decode cX6_rider 8 = .ok (.bipush (-101), 2) := by decide +kernel
theorem dX6_rider_10 : decode cX6_rider 10 = .ok (.ireturn, 1) := by decide +kernel
theorem dX6_rider_11 : decode cX6_rider 11 = .ok (.aload_n 0, 1) := by decide +kernel
theorem dX6_rider_12 : decode cX6_rider 12 = .ok (.invokevirtual 113, 3) := by decide +kernel
theorem dX6_rider_15 : decode cX6_rider 15 = .ok (.aload_n 0, 1) := by decide +kernel
theorem dX6_rider_16 : decode cX6_rider 16 = .ok (.getfield 28, 3) := by decide +kernel
theorem dX6_rider_19 : decode cX6_rider 19 = .ok (.iload_n 1, 1) := by decide +kernel
theorem dX6_rider_20 : decode cX6_rider 20 = .ok (.iaload, 1) := by decide +kernel
theorem dX6_rider_21 : decode cX6_rider 21 = .ok (.bipush (-106), 2) := by decide +kernel
theorem dX6_rider_23 : decode cX6_rider 23 = .ok (.if_icmp .ne 7, 3) := by decide +kernel
theorem dX6_rider_26 : decode cX6_rider 26 = .ok (.iconst 1, 1) := by decide +kernel
theorem dX6_rider_27 : decode cX6_rider 27 = .ok (.goto 4, 3) := by decide +kernel
theorem dX6_rider_30 : decode cX6_rider 30 = .ok (.iconst 0, 1) := by decide +kernel
theorem dX6_rider_31 : decode cX6_rider 31 = .ok (.istore_n 3, 1) := by decide +kernel
theorem dX6_rider_32 : decode cX6_rider 32 = .ok (.iload_n 2, 1) := by decide +kernel
theorem dX6_rider_33 : decode cX6_rider 33 = .ok (.tableswitch 112 0 9 #[55, 55, 55, 55, 62, 68, 75, 75, 91, 97], 55) := by decide +kernel
theorem dX6_rider_88 : decode cX6_rider 88 = .ok (.aload_n 0, 1) := by decide +kernel
theorem dX6_rider_89 : decode cX6_rider 89 = .ok (.iload_n 1, 1) := by decide +kernel
theorem dX6_rider_90 : decode cX6_rider 90 = .ok (.iload_n 2, 1) := by decide +kernel
theorem dX6_rider_91 : decode cX6_rider 91 = .ok (.invokevirtual 57, 3) := by decide +kernel
theorem dX6_rider_94 : decode cX6_rider 94 = .ok (.ireturn, 1) := by decide +kernel
theorem dX6_rider_95 : decode cX6_rider 95 = .ok (.aload_n 0, 1) := by decide +kernel
theorem dX6_rider_96 : decode cX6_rider 96 = .ok (.iload_n 1, 1) := by decide +kernel
theorem dX6_rider_97 : decode cX6_rider 97 = .ok (.invokevirtual 65, 3) := by decide +kernel
theorem dX6_rider_100 : decode cX6_rider 100 = .ok (.ireturn, 1) := by decide +kernel
theorem dX6_rider_101 : decode cX6_rider 101 = .ok (.aload_n 0, 1) := by decide +kernel
theorem dX6_rider_102 : decode cX6_rider 102 = .ok (.getfield 28, 3) := by decide +kernel
theorem dX6_rider_105 : decode cX6_rider 105 = .ok (.iload_n 1, 1) := by decide +kernel
theorem dX6_rider_106 : decode cX6_rider 106 = .ok (.iaload, 1) := by decide +kernel
theorem dX6_rider_107 : decode cX6_rider 107 = .ok (.ireturn, 1) := by decide +kernel
theorem dX6_rider_108 : decode cX6_rider 108 = .ok (.iload_n 3, 1) := by decide +kernel
theorem dX6_rider_109 : decode cX6_rider 109 = .ok (.ifCond .eq 8, 3) := by decide +kernel
theorem dX6_rider_112 : decode cX6_rider 112 = .ok (.bipush (-106), 2) := by decide +kernel
theorem dX6_rider_114 : decode cX6_rider 114 = .ok (.goto 9, 3) := by decide +kernel
theorem dX6_rider_117 : decode cX6_rider 117 = .ok (.aload_n 0, 1) := by decide +kernel
theorem dX6_rider_118 : decode cX6_rider 118 = .ok (.iload_n 1, 1) := by decide +kernel
theorem dX6_rider_119 : decode cX6_rider 119 = .ok (.iload_n 2, 1) := by decide +kernel
theorem dX6_rider_120 : decode cX6_rider 120 = .ok (.invokevirtual 135, 3) := by decide +kernel
theorem dX6_rider_123 : decode cX6_rider 123 = .ok (.ireturn, 1) := by decide +kernel
theorem dX6_rider_124 : decode cX6_rider 124 = .ok (.aload_n 0, 1) := by decide +kernel
theorem dX6_rider_125 : decode cX6_rider 125 = .ok (.iload_n 1, 1) := by decide +kernel
theorem dX6_rider_126 : decode cX6_rider 126 = .ok (.invokevirtual 126, 3) := by decide +kernel
theorem dX6_rider_129 : decode cX6_rider 129 = .ok (.ireturn, 1) := by decide +kernel
theorem dX6_rider_130 : decode cX6_rider 130 = .ok (.iload_n 3, 1) := by decide +kernel
theorem dX6_rider_131 : decode cX6_rider 131 = .ok (.ifCond .eq 7, 3) := by decide +kernel
theorem dX6_rider_134 : decode cX6_rider 134 = .ok (.iconst 0, 1) := by decide +kernel
theorem dX6_rider_135 : decode cX6_rider 135 = .ok (.goto 9, 3) := by decide +kernel
theorem dX6_rider_138 : decode cX6_rider 138 = .ok (.aload_n 0, 1) := by decide +kernel
theorem dX6_rider_139 : decode cX6_rider 139 = .ok (.iload_n 1, 1) := by decide +kernel
theorem dX6_rider_140 : decode cX6_rider 140 = .ok (.iload_n 2, 1) := by decide +kernel
theorem dX6_rider_141 : decode cX6_rider 141 = .ok (.invokevirtual 135, 3) := by decide +kernel
theorem dX6_rider_144 : decode cX6_rider 144 = .ok (.ireturn, 1) := by decide +kernel
theorem dX6_rider_145 : decode cX6_rider 145 = .ok (.bipush (-102), 2) := by decide +kernel
theorem dX6_rider_147 : decode cX6_rider 147 = .ok (.ireturn, 1) := by decide +kernel
theorem dX6_peopleIn_0 : decode cX6_peopleIn 0 = .ok (.aload_n 0, 1) := by decide +kernel
theorem dX6_peopleIn_1 : decode cX6_peopleIn 1 = .ok (.getfield 7, 3) := by decide +kernel
theorem dX6_peopleIn_4 : decode cX6_peopleIn 4 = .ok (.bipush 25, 2) := by decide +kernel
theorem dX6_peopleIn_6 : decode cX6_peopleIn 6 = .ok (.iload_n 1, 1) := by decide +kernel
theorem dX6_peopleIn_7 : decode cX6_peopleIn 7 = .ok (.iadd, 1) := by decide +kernel
theorem dX6_peopleIn_8 : decode cX6_peopleIn 8 = .ok (.iaload, 1) := by decide +kernel
theorem dX6_peopleIn_9 : decode cX6_peopleIn 9 = .ok (.aload_n 0, 1) := by decide +kernel
theorem dX6_peopleIn_10 : decode cX6_peopleIn 10 = .ok (.getfield 34, 3) := by decide +kernel
theorem dX6_peopleIn_13 : decode cX6_peopleIn 13 = .ok (.iload_n 1, 1) := by decide +kernel
theorem dX6_peopleIn_14 : decode cX6_peopleIn 14 = .ok (.iaload, 1) := by decide +kernel
theorem dX6_peopleIn_15 : decode cX6_peopleIn 15 = .ok (.isub, 1) := by decide +kernel
theorem dX6_peopleIn_16 : decode cX6_peopleIn 16 = .ok (.ireturn, 1) := by decide +kernel
theorem dX6_ridersIn_0 : decode cX6_ridersIn 0 = .ok (.iconst 0, 1) := by decide +kernel
theorem dX6_ridersIn_1 : decode cX6_ridersIn 1 = .ok (.istore_n 2, 1) := by decide +kernel
theorem dX6_ridersIn_2 : decode cX6_ridersIn 2 = .ok (.iconst 0, 1) := by decide +kernel
theorem dX6_ridersIn_3 : decode cX6_ridersIn 3 = .ok (.istore_n 3, 1) := by decide +kernel
theorem dX6_ridersIn_4 : decode cX6_ridersIn 4 = .ok (.iload_n 3, 1) := by decide +kernel
theorem dX6_ridersIn_5 : decode cX6_ridersIn 5 = .ok (.aload_n 0, 1) := by decide +kernel
theorem dX6_ridersIn_6 : decode cX6_ridersIn 6 = .ok (.getfield 7, 3) := by decide +kernel
theorem dX6_ridersIn_9 : decode cX6_ridersIn 9 = .ok (.bipush 33, 2) := by decide +kernel
theorem dX6_ridersIn_11 : decode cX6_ridersIn 11 = .ok (.iaload, 1) := by decide +kernel
theorem dX6_ridersIn_12 : decode cX6_ridersIn 12 = .ok (.if_icmp .ge 29, 3) := by decide +kernel
theorem dX6_ridersIn_15 : decode cX6_ridersIn 15 = .ok (.iload_n 2, 1) := by decide +kernel
theorem dX6_ridersIn_16 : decode cX6_ridersIn 16 = .ok (.aload_n 0, 1) := by decide +kernel
theorem dX6_ridersIn_17 : decode cX6_ridersIn 17 = .ok (.getfield 28, 3) := by decide +kernel
theorem dX6_ridersIn_20 : decode cX6_ridersIn 20 = .ok (.iload_n 3, 1) := by decide +kernel
theorem dX6_ridersIn_21 : decode cX6_ridersIn 21 = .ok (.iaload, 1) := by decide +kernel
theorem dX6_ridersIn_22 : decode cX6_ridersIn 22 = .ok (.iload_n 1, 1) := by decide +kernel
theorem dX6_ridersIn_23 : decode cX6_ridersIn 23 = .ok (.if_icmp .ne 9, 3) := by decide +kernel
theorem dX6_ridersIn_26 : decode cX6_ridersIn 26 = .ok (.iconst 1, 1) := by decide +kernel
theorem dX6_ridersIn_27 : decode cX6_ridersIn 27 = .ok (.iload_n 3, 1) := by decide +kernel
theorem dX6_ridersIn_28 : decode cX6_ridersIn 28 = .ok (.ishl, 1) := by decide +kernel
theorem dX6_ridersIn_29 : decode cX6_ridersIn 29 = .ok (.goto 4, 3) := by decide +kernel
theorem dX6_ridersIn_32 : decode cX6_ridersIn 32 = .ok (.iconst 0, 1) := by decide +kernel
theorem dX6_ridersIn_33 : decode cX6_ridersIn 33 = .ok (.ior, 1) := by decide +kernel
theorem dX6_ridersIn_34 : decode cX6_ridersIn 34 = .ok (.istore_n 2, 1) := by decide +kernel
theorem dX6_ridersIn_35 : decode cX6_ridersIn 35 = .ok (.iinc 3 1, 3) := by decide +kernel
theorem dX6_ridersIn_38 : decode cX6_ridersIn 38 = .ok (.goto (-34), 3) := by decide +kernel
theorem dX6_ridersIn_41 : decode cX6_ridersIn 41 = .ok (.iload_n 2, 1) := by decide +kernel
theorem dX6_ridersIn_42 : decode cX6_ridersIn 42 = .ok (.ireturn, 1) := by decide +kernel
theorem dX6_faresIn_0 : decode cX6_faresIn 0 = .ok (.iconst 0, 1) := by decide +kernel
theorem dX6_faresIn_1 : decode cX6_faresIn 1 = .ok (.istore_n 2, 1) := by decide +kernel
theorem dX6_faresIn_2 : decode cX6_faresIn 2 = .ok (.iconst 0, 1) := by decide +kernel
theorem dX6_faresIn_3 : decode cX6_faresIn 3 = .ok (.istore_n 3, 1) := by decide +kernel
theorem dX6_faresIn_4 : decode cX6_faresIn 4 = .ok (.iload_n 3, 1) := by decide +kernel
theorem dX6_faresIn_5 : decode cX6_faresIn 5 = .ok (.aload_n 0, 1) := by decide +kernel
theorem dX6_faresIn_6 : decode cX6_faresIn 6 = .ok (.getfield 7, 3) := by decide +kernel
theorem dX6_faresIn_9 : decode cX6_faresIn 9 = .ok (.bipush 33, 2) := by decide +kernel
theorem dX6_faresIn_11 : decode cX6_faresIn 11 = .ok (.iaload, 1) := by decide +kernel
theorem dX6_faresIn_12 : decode cX6_faresIn 12 = .ok (.if_icmp .ge 31, 3) := by decide +kernel
theorem dX6_faresIn_15 : decode cX6_faresIn 15 = .ok (.iload_n 2, 1) := by decide +kernel
theorem dX6_faresIn_16 : decode cX6_faresIn 16 = .ok (.aload_n 0, 1) := by decide +kernel
theorem dX6_faresIn_17 : decode cX6_faresIn 17 = .ok (.getfield 28, 3) := by decide +kernel
theorem dX6_faresIn_20 : decode cX6_faresIn 20 = .ok (.iload_n 3, 1) := by decide +kernel
theorem dX6_faresIn_21 : decode cX6_faresIn 21 = .ok (.iaload, 1) := by decide +kernel
theorem dX6_faresIn_22 : decode cX6_faresIn 22 = .ok (.iload_n 1, 1) := by decide +kernel
theorem dX6_faresIn_23 : decode cX6_faresIn 23 = .ok (.if_icmp .ne 11, 3) := by decide +kernel
theorem dX6_faresIn_26 : decode cX6_faresIn 26 = .ok (.aload_n 0, 1) := by decide +kernel
theorem dX6_faresIn_27 : decode cX6_faresIn 27 = .ok (.iload_n 3, 1) := by decide +kernel
theorem dX6_faresIn_28 : decode cX6_faresIn 28 = .ok (.invokevirtual 126, 3) := by decide +kernel
theorem dX6_faresIn_31 : decode cX6_faresIn 31 = .ok (.goto 4, 3) := by decide +kernel
theorem dX6_faresIn_34 : decode cX6_faresIn 34 = .ok (.iconst 0, 1) := by decide +kernel
theorem dX6_faresIn_35 : decode cX6_faresIn 35 = .ok (.iadd, 1) := by decide +kernel
theorem dX6_faresIn_36 : decode cX6_faresIn 36 = .ok (.istore_n 2, 1) := by decide +kernel
theorem dX6_faresIn_37 : decode cX6_faresIn 37 = .ok (.iinc 3 1, 3) := by decide +kernel
theorem dX6_faresIn_40 : decode cX6_faresIn 40 = .ok (.goto (-36), 3) := by decide +kernel
theorem dX6_faresIn_43 : decode cX6_faresIn 43 = .ok (.iload_n 2, 1) := by decide +kernel
theorem dX6_faresIn_44 : decode cX6_faresIn 44 = .ok (.ireturn, 1) := by decide +kernel
theorem dX6_vanOf_0 : decode cX6_vanOf 0 = .ok (.iload_n 1, 1) := by decide +kernel
theorem dX6_vanOf_1 : decode cX6_vanOf 1 = .ok (.invokestatic 110, 3) := by decide +kernel
theorem dX6_vanOf_4 : decode cX6_vanOf 4 = .ok (.ifCond .ne 6, 3) := by decide +kernel
theorem dX6_vanOf_7 : decode cX6_vanOf 7 = .ok (.bipush (-101), 2) := by decide +kernel
theorem dX6_vanOf_9 : decode cX6_vanOf 9 = .ok (.ireturn, 1) := by decide +kernel
theorem dX6_vanOf_10 : decode cX6_vanOf 10 = .ok (.aload_n 0, 1) := by decide +kernel
theorem dX6_vanOf_11 : decode cX6_vanOf 11 = .ok (.invokevirtual 113, 3) := by decide +kernel
theorem dX6_vanOf_14 : decode cX6_vanOf 14 = .ok (.aload_n 0, 1) := by decide +kernel
theorem dX6_vanOf_15 : decode cX6_vanOf 15 = .ok (.iload_n 1, 1) := by decide +kernel
theorem dX6_vanOf_16 : decode cX6_vanOf 16 = .ok (.invokevirtual 88, 3) := by decide +kernel
theorem dX6_vanOf_19 : decode cX6_vanOf 19 = .ok (.iload_n 2, 1) := by decide +kernel
theorem dX6_vanOf_20 : decode cX6_vanOf 20 = .ok (.tableswitch 122 0 7 #[48, 58, 68, 74, 80, 87, 92, 116], 48) := by decide +kernel
theorem dX6_vanOf_68 : decode cX6_vanOf 68 = .ok (.aload_n 0, 1) := by decide +kernel
theorem dX6_vanOf_69 : decode cX6_vanOf 69 = .ok (.getfield 7, 3) := by decide +kernel
theorem dX6_vanOf_72 : decode cX6_vanOf 72 = .ok (.bipush 17, 2) := by decide +kernel
theorem dX6_vanOf_74 : decode cX6_vanOf 74 = .ok (.iload_n 1, 1) := by decide +kernel
theorem dX6_vanOf_75 : decode cX6_vanOf 75 = .ok (.iadd, 1) := by decide +kernel
theorem dX6_vanOf_76 : decode cX6_vanOf 76 = .ok (.iaload, 1) := by decide +kernel
theorem dX6_vanOf_77 : decode cX6_vanOf 77 = .ok (.ireturn, 1) := by decide +kernel
theorem dX6_vanOf_78 : decode cX6_vanOf 78 = .ok (.aload_n 0, 1) := by decide +kernel
theorem dX6_vanOf_79 : decode cX6_vanOf 79 = .ok (.getfield 7, 3) := by decide +kernel
theorem dX6_vanOf_82 : decode cX6_vanOf 82 = .ok (.bipush 25, 2) := by decide +kernel
theorem dX6_vanOf_84 : decode cX6_vanOf 84 = .ok (.iload_n 1, 1) := by decide +kernel
theorem dX6_vanOf_85 : decode cX6_vanOf 85 = .ok (.iadd, 1) := by decide +kernel
theorem dX6_vanOf_86 : decode cX6_vanOf 86 = .ok (.iaload, 1) := by decide +kernel
theorem dX6_vanOf_87 : decode cX6_vanOf 87 = .ok (.ireturn, 1) := by decide +kernel
theorem dX6_vanOf_88 : decode cX6_vanOf 88 = .ok (.aload_n 0, 1) := by decide +kernel
theorem dX6_vanOf_89 : decode cX6_vanOf 89 = .ok (.iload_n 1, 1) := by decide +kernel
theorem dX6_vanOf_90 : decode cX6_vanOf 90 = .ok (.invokevirtual 138, 3) := by decide +kernel
theorem dX6_vanOf_93 : decode cX6_vanOf 93 = .ok (.ireturn, 1) := by decide +kernel
theorem dX6_vanOf_94 : decode cX6_vanOf 94 = .ok (.aload_n 0, 1) := by decide +kernel
theorem dX6_vanOf_95 : decode cX6_vanOf 95 = .ok (.iload_n 1, 1) := by decide +kernel
theorem dX6_vanOf_96 : decode cX6_vanOf 96 = .ok (.invokevirtual 141, 3) := by decide +kernel
theorem dX6_vanOf_99 : decode cX6_vanOf 99 = .ok (.ireturn, 1) := by decide +kernel
theorem dX6_vanOf_100 : decode cX6_vanOf 100 = .ok (.aload_n 0, 1) := by decide +kernel
theorem dX6_vanOf_101 : decode cX6_vanOf 101 = .ok (.getfield 37, 3) := by decide +kernel
theorem dX6_vanOf_104 : decode cX6_vanOf 104 = .ok (.iload_n 1, 1) := by decide +kernel
theorem dX6_vanOf_105 : decode cX6_vanOf 105 = .ok (.iaload, 1) := by decide +kernel
theorem dX6_vanOf_106 : decode cX6_vanOf 106 = .ok (.ireturn, 1) := by decide +kernel
theorem dX6_vanOf_107 : decode cX6_vanOf 107 = .ok (.aload_n 0, 1) := by decide +kernel
theorem dX6_vanOf_108 : decode cX6_vanOf 108 = .ok (.getfield 82, 3) := by decide +kernel
theorem dX6_vanOf_111 : decode cX6_vanOf 111 = .ok (.ireturn, 1) := by decide +kernel
theorem dX6_vanOf_112 : decode cX6_vanOf 112 = .ok (.aload_n 0, 1) := by decide +kernel
theorem dX6_vanOf_113 : decode cX6_vanOf 113 = .ok (.getfield 82, 3) := by decide +kernel
theorem dX6_vanOf_116 : decode cX6_vanOf 116 = .ok (.ifCond .ne 8, 3) := by decide +kernel
theorem dX6_vanOf_119 : decode cX6_vanOf 119 = .ok (.bipush (-106), 2) := by decide +kernel
theorem dX6_vanOf_121 : decode cX6_vanOf 121 = .ok (.goto 14, 3) := by decide +kernel
theorem dX6_vanOf_124 : decode cX6_vanOf 124 = .ok (.aload_n 0, 1) := by decide +kernel
theorem dX6_vanOf_125 : decode cX6_vanOf 125 = .ok (.getfield 43, 3) := by decide +kernel
theorem dX6_vanOf_128 : decode cX6_vanOf 128 = .ok (.aload_n 0, 1) := by decide +kernel
theorem dX6_vanOf_129 : decode cX6_vanOf 129 = .ok (.getfield 82, 3) := by decide +kernel
theorem dX6_vanOf_132 : decode cX6_vanOf 132 = .ok (.iconst 1, 1) := by decide +kernel
theorem dX6_vanOf_133 : decode cX6_vanOf 133 = .ok (.isub, 1) := by decide +kernel
theorem dX6_vanOf_134 : decode cX6_vanOf 134 = .ok (.iaload, 1) := by decide +kernel
theorem dX6_vanOf_135 : decode cX6_vanOf 135 = .ok (.ireturn, 1) := by decide +kernel
theorem dX6_vanOf_136 : decode cX6_vanOf 136 = .ok (.aload_n 0, 1) := by decide +kernel
theorem dX6_vanOf_137 : decode cX6_vanOf 137 = .ok (.iload_n 1, 1) := by decide +kernel
theorem dX6_vanOf_138 : decode cX6_vanOf 138 = .ok (.invokevirtual 144, 3) := by decide +kernel
theorem dX6_vanOf_141 : decode cX6_vanOf 141 = .ok (.ireturn, 1) := by decide +kernel
theorem dX6_vanOf_142 : decode cX6_vanOf 142 = .ok (.bipush (-102), 2) := by decide +kernel
theorem dX6_vanOf_144 : decode cX6_vanOf 144 = .ok (.ireturn, 1) := by decide +kernel
theorem dX6_peopleOf_0 : decode cX6_peopleOf 0 = .ok (.iconst 0, 1) := by decide +kernel
theorem dX6_peopleOf_1 : decode cX6_peopleOf 1 = .ok (.istore_n 3, 1) := by decide +kernel
theorem dX6_peopleOf_2 : decode cX6_peopleOf 2 = .ok (.iconst 0, 1) := by decide +kernel
theorem dX6_peopleOf_3 : decode cX6_peopleOf 3 = .ok (.istore 4, 2) := by decide +kernel
theorem dX6_peopleOf_5 : decode cX6_peopleOf 5 = .ok (.iload 4, 2) := by decide +kernel
theorem dX6_peopleOf_7 : decode cX6_peopleOf 7 = .ok (.aload_n 0, 1) := by decide +kernel
theorem dX6_peopleOf_8 : decode cX6_peopleOf 8 = .ok (.getfield 7, 3) := by decide +kernel
theorem dX6_peopleOf_11 : decode cX6_peopleOf 11 = .ok (.bipush 33, 2) := by decide +kernel
theorem dX6_peopleOf_13 : decode cX6_peopleOf 13 = .ok (.iaload, 1) := by decide +kernel
theorem dX6_peopleOf_14 : decode cX6_peopleOf 14 = .ok (.if_icmp .ge 62, 3) := by decide +kernel
theorem dX6_peopleOf_17 : decode cX6_peopleOf 17 = .ok (.aload_n 0, 1) := by decide +kernel
theorem dX6_peopleOf_18 : decode cX6_peopleOf 18 = .ok (.iload 4, 2) := by decide +kernel
theorem dX6_peopleOf_20 : decode cX6_peopleOf 20 = .ok (.iconst 0, 1) := by decide +kernel
theorem dX6_peopleOf_21 : decode cX6_peopleOf 21 = .ok (.invokevirtual 57, 3) := by decide +kernel
theorem dX6_peopleOf_24 : decode cX6_peopleOf 24 = .ok (.iload_n 1, 1) := by decide +kernel
theorem dX6_peopleOf_25 : decode cX6_peopleOf 25 = .ok (.if_icmp .ne 23, 3) := by decide +kernel
theorem dX6_peopleOf_28 : decode cX6_peopleOf 28 = .ok (.iload_n 2, 1) := by decide +kernel
theorem dX6_peopleOf_29 : decode cX6_peopleOf 29 = .ok (.ifCond .eq 15, 3) := by decide +kernel
theorem dX6_peopleOf_32 : decode cX6_peopleOf 32 = .ok (.aload_n 0, 1) := by decide +kernel
theorem dX6_peopleOf_33 : decode cX6_peopleOf 33 = .ok (.getfield 28, 3) := by decide +kernel
theorem dX6_peopleOf_36 : decode cX6_peopleOf 36 = .ok (.iload 4, 2) := by decide +kernel
theorem dX6_peopleOf_38 : decode cX6_peopleOf 38 = .ok (.iaload, 1) := by decide +kernel
theorem dX6_peopleOf_39 : decode cX6_peopleOf 39 = .ok (.bipush (-106), 2) := by decide +kernel
theorem dX6_peopleOf_41 : decode cX6_peopleOf 41 = .ok (.if_icmp .ne 7, 3) := by decide +kernel
theorem dX6_peopleOf_44 : decode cX6_peopleOf 44 = .ok (.iconst 1, 1) := by decide +kernel
theorem dX6_peopleOf_45 : decode cX6_peopleOf 45 = .ok (.goto 4, 3) := by decide +kernel
theorem dX6_peopleOf_48 : decode cX6_peopleOf 48 = .ok (.iconst 0, 1) := by decide +kernel
theorem dX6_peopleOf_49 : decode cX6_peopleOf 49 = .ok (.istore 5, 2) := by decide +kernel
theorem dX6_peopleOf_51 : decode cX6_peopleOf 51 = .ok (.iload_n 3, 1) := by decide +kernel
theorem dX6_peopleOf_52 : decode cX6_peopleOf 52 = .ok (.iload 5, 2) := by decide +kernel
theorem dX6_peopleOf_54 : decode cX6_peopleOf 54 = .ok (.ifCond .eq 13, 3) := by decide +kernel
theorem dX6_peopleOf_57 : decode cX6_peopleOf 57 = .ok (.aload_n 0, 1) := by decide +kernel
theorem dX6_peopleOf_58 : decode cX6_peopleOf 58 = .ok (.iload 4, 2) := by decide +kernel
theorem dX6_peopleOf_60 : decode cX6_peopleOf 60 = .ok (.iconst 3, 1) := by decide +kernel
theorem dX6_peopleOf_61 : decode cX6_peopleOf 61 = .ok (.invokevirtual 57, 3) := by decide +kernel
theorem dX6_peopleOf_64 : decode cX6_peopleOf 64 = .ok (.goto 4, 3) := by decide +kernel
theorem dX6_peopleOf_67 : decode cX6_peopleOf 67 = .ok (.iconst 0, 1) := by decide +kernel
theorem dX6_peopleOf_68 : decode cX6_peopleOf 68 = .ok (.iadd, 1) := by decide +kernel
theorem dX6_peopleOf_69 : decode cX6_peopleOf 69 = .ok (.istore_n 3, 1) := by decide +kernel
theorem dX6_peopleOf_70 : decode cX6_peopleOf 70 = .ok (.iinc 4 1, 3) := by decide +kernel
theorem dX6_peopleOf_73 : decode cX6_peopleOf 73 = .ok (.goto (-68), 3) := by decide +kernel
theorem dX6_peopleOf_76 : decode cX6_peopleOf 76 = .ok (.iload_n 3, 1) := by decide +kernel
theorem dX6_peopleOf_77 : decode cX6_peopleOf 77 = .ok (.ireturn, 1) := by decide +kernel
theorem dX6_flight_0 : decode cX6_flight 0 = .ok (.iload_n 1, 1) := by decide +kernel
theorem dX6_flight_1 : decode cX6_flight 1 = .ok (.invokestatic 106, 3) := by decide +kernel
theorem dX6_flight_4 : decode cX6_flight 4 = .ok (.ifCond .ne 6, 3) := by decide +kernel
theorem dX6_flight_7 : decode cX6_flight 7 = .ok (.bipush (-101), 2) := by decide +kernel
theorem dX6_flight_9 : decode cX6_flight 9 = .ok (.ireturn, 1) := by decide +kernel
theorem dX6_flight_10 : decode cX6_flight 10 = .ok (.aload_n 0, 1) := by decide +kernel
theorem dX6_flight_11 : decode cX6_flight 11 = .ok (.invokevirtual 113, 3) := by decide +kernel
theorem dX6_flight_14 : decode cX6_flight 14 = .ok (.iload_n 2, 1) := by decide +kernel
theorem dX6_flight_15 : decode cX6_flight 15 = .ok (.tableswitch 72 0 4 #[33, 42, 52, 58, 65], 33) := by decide +kernel
theorem dX6_flight_48 : decode cX6_flight 48 = .ok (.aload_n 0, 1) := by decide +kernel
theorem dX6_flight_49 : decode cX6_flight 49 = .ok (.getfield 7, 3) := by decide +kernel
theorem dX6_flight_52 : decode cX6_flight 52 = .ok (.iconst 5, 1) := by decide +kernel
theorem dX6_flight_53 : decode cX6_flight 53 = .ok (.iload_n 1, 1) := by decide +kernel
theorem dX6_flight_54 : decode cX6_flight 54 = .ok (.iadd, 1) := by decide +kernel
theorem dX6_flight_55 : decode cX6_flight 55 = .ok (.iaload, 1) := by decide +kernel
theorem dX6_flight_56 : decode cX6_flight 56 = .ok (.ireturn, 1) := by decide +kernel
theorem dX6_flight_57 : decode cX6_flight 57 = .ok (.aload_n 0, 1) := by decide +kernel
theorem dX6_flight_58 : decode cX6_flight 58 = .ok (.getfield 7, 3) := by decide +kernel
theorem dX6_flight_61 : decode cX6_flight 61 = .ok (.bipush 11, 2) := by decide +kernel
theorem dX6_flight_63 : decode cX6_flight 63 = .ok (.iload_n 1, 1) := by decide +kernel
theorem dX6_flight_64 : decode cX6_flight 64 = .ok (.iadd, 1) := by decide +kernel
theorem dX6_flight_65 : decode cX6_flight 65 = .ok (.iaload, 1) := by decide +kernel
theorem dX6_flight_66 : decode cX6_flight 66 = .ok (.ireturn, 1) := by decide +kernel
theorem dX6_flight_67 : decode cX6_flight 67 = .ok (.aload_n 0, 1) := by decide +kernel
theorem dX6_flight_68 : decode cX6_flight 68 = .ok (.iload_n 1, 1) := by decide +kernel
theorem dX6_flight_69 : decode cX6_flight 69 = .ok (.invokevirtual 61, 3) := by decide +kernel
theorem dX6_flight_72 : decode cX6_flight 72 = .ok (.ireturn, 1) := by decide +kernel
theorem dX6_flight_73 : decode cX6_flight 73 = .ok (.aload_n 0, 1) := by decide +kernel
theorem dX6_flight_74 : decode cX6_flight 74 = .ok (.iload_n 1, 1) := by decide +kernel
theorem dX6_flight_75 : decode cX6_flight 75 = .ok (.iconst 0, 1) := by decide +kernel
theorem dX6_flight_76 : decode cX6_flight 76 = .ok (.invokevirtual 147, 3) := by decide +kernel
theorem dX6_flight_79 : decode cX6_flight 79 = .ok (.ireturn, 1) := by decide +kernel
theorem dX6_flight_80 : decode cX6_flight 80 = .ok (.aload_n 0, 1) := by decide +kernel
theorem dX6_flight_81 : decode cX6_flight 81 = .ok (.iload_n 1, 1) := by decide +kernel
theorem dX6_flight_82 : decode cX6_flight 82 = .ok (.iconst 1, 1) := by decide +kernel
theorem dX6_flight_83 : decode cX6_flight 83 = .ok (.invokevirtual 147, 3) := by decide +kernel
theorem dX6_flight_86 : decode cX6_flight 86 = .ok (.ireturn, 1) := by decide +kernel
theorem dX6_flight_87 : decode cX6_flight 87 = .ok (.bipush (-102), 2) := by decide +kernel
theorem dX6_flight_89 : decode cX6_flight 89 = .ok (.ireturn, 1) := by decide +kernel
theorem dX6_gettingOut_0 : decode cX6_gettingOut 0 = .ok (.iconst 0, 1) := by decide +kernel
theorem dX6_gettingOut_1 : decode cX6_gettingOut 1 = .ok (.istore_n 3, 1) := by decide +kernel
theorem dX6_gettingOut_2 : decode cX6_gettingOut 2 = .ok (.iconst 0, 1) := by decide +kernel
theorem dX6_gettingOut_3 : decode cX6_gettingOut 3 = .ok (.istore 4, 2) := by decide +kernel
theorem dX6_gettingOut_5 : decode cX6_gettingOut 5 = .ok (.iload 4, 2) := by decide +kernel
theorem dX6_gettingOut_7 : decode cX6_gettingOut 7 = .ok (.aload_n 0, 1) := by decide +kernel
theorem dX6_gettingOut_8 : decode cX6_gettingOut 8 = .ok (.getfield 7, 3) := by decide +kernel
theorem dX6_gettingOut_11 : decode cX6_gettingOut 11 = .ok (.bipush 33, 2) := by decide +kernel
theorem dX6_gettingOut_13 : decode cX6_gettingOut 13 = .ok (.iaload, 1) := by decide +kernel
theorem dX6_gettingOut_14 : decode cX6_gettingOut 14 = .ok (.if_icmp .ge 44, 3) := by decide +kernel
theorem dX6_gettingOut_17 : decode cX6_gettingOut 17 = .ok (.iload_n 3, 1) := by decide +kernel
theorem dX6_gettingOut_18 : decode cX6_gettingOut 18 = .ok (.aload_n 0, 1) := by decide +kernel
theorem dX6_gettingOut_19 : decode cX6_gettingOut 19 = .ok (.getfield 28, 3) := by decide +kernel
theorem dX6_gettingOut_22 : decode cX6_gettingOut 22 = .ok (.iload 4, 2) := by decide +kernel
theorem dX6_gettingOut_24 : decode cX6_gettingOut 24 = .ok (.iaload, 1) := by decide +kernel
theorem dX6_gettingOut_25 : decode cX6_gettingOut 25 = .ok (.iload_n 1, 1) := by decide +kernel
theorem dX6_gettingOut_26 : decode cX6_gettingOut 26 = .ok (.if_icmp .ne 23, 3) := by decide +kernel
theorem dX6_gettingOut_29 : decode cX6_gettingOut 29 = .ok (.aload_n 0, 1) := by decide +kernel
theorem dX6_gettingOut_30 : decode cX6_gettingOut 30 = .ok (.iload 4, 2) := by decide +kernel
theorem dX6_gettingOut_32 : decode cX6_gettingOut 32 = .ok (.invokevirtual 85, 3) := by decide +kernel
theorem dX6_gettingOut_35 : decode cX6_gettingOut 35 = .ok (.iload_n 2, 1) := by decide +kernel
theorem dX6_gettingOut_36 : decode cX6_gettingOut 36 = .ok (.if_icmp .ne 13, 3) := by decide +kernel
theorem dX6_gettingOut_39 : decode cX6_gettingOut 39 = .ok (.aload_n 0, 1) := by decide +kernel
theorem dX6_gettingOut_40 : decode cX6_gettingOut 40 = .ok (.iload 4, 2) := by decide +kernel
theorem dX6_gettingOut_42 : decode cX6_gettingOut 42 = .ok (.iconst 3, 1) := by decide +kernel
theorem dX6_gettingOut_43 : decode cX6_gettingOut 43 = .ok (.invokevirtual 57, 3) := by decide +kernel
theorem dX6_gettingOut_46 : decode cX6_gettingOut 46 = .ok (.goto 4, 3) := by decide +kernel
theorem dX6_gettingOut_49 : decode cX6_gettingOut 49 = .ok (.iconst 0, 1) := by decide +kernel
theorem dX6_gettingOut_50 : decode cX6_gettingOut 50 = .ok (.iadd, 1) := by decide +kernel
theorem dX6_gettingOut_51 : decode cX6_gettingOut 51 = .ok (.istore_n 3, 1) := by decide +kernel
theorem dX6_gettingOut_52 : decode cX6_gettingOut 52 = .ok (.iinc 4 1, 3) := by decide +kernel
theorem dX6_gettingOut_55 : decode cX6_gettingOut 55 = .ok (.goto (-50), 3) := by decide +kernel
theorem dX6_gettingOut_58 : decode cX6_gettingOut 58 = .ok (.iload_n 3, 1) := by decide +kernel
theorem dX6_gettingOut_59 : decode cX6_gettingOut 59 = .ok (.ireturn, 1) := by decide +kernel
theorem dX6_stop_0 : decode cX6_stop 0 = .ok (.iload_n 1, 1) := by decide +kernel
theorem dX6_stop_1 : decode cX6_stop 1 = .ok (.invokestatic 110, 3) := by decide +kernel
theorem dX6_stop_4 : decode cX6_stop 4 = .ok (.ifCond .ne 6, 3) := by decide +kernel
theorem dX6_stop_7 : decode cX6_stop 7 = .ok (.bipush (-101), 2) := by decide +kernel
theorem dX6_stop_9 : decode cX6_stop 9 = .ok (.ireturn, 1) := by decide +kernel
theorem dX6_stop_10 : decode cX6_stop 10 = .ok (.aload_n 0, 1) := by decide +kernel
theorem dX6_stop_11 : decode cX6_stop 11 = .ok (.invokevirtual 113, 3) := by decide +kernel
theorem dX6_stop_14 : decode cX6_stop 14 = .ok (.aload_n 0, 1) := by decide +kernel
theorem dX6_stop_15 : decode cX6_stop 15 = .ok (.iload_n 1, 1) := by decide +kernel
theorem dX6_stop_16 : decode cX6_stop 16 = .ok (.invokevirtual 88, 3) := by decide +kernel
