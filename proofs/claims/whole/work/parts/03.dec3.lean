theorem dX5_count_119 : decode cX5_count 119 = .ok (.ireturn, 1) := by decide +kernel
theorem dX5_count_120 : decode cX5_count 120 = .ok (.aload_n 0, 1) := by decide +kernel
theorem dX5_count_121 : decode cX5_count 121 = .ok (.invokevirtual 211, 3) := by decide +kernel
theorem dX5_count_124 : decode cX5_count 124 = .ok (.ireturn, 1) := by decide +kernel
theorem dX5_count_125 : decode cX5_count 125 = .ok (.aload_n 0, 1) := by decide +kernel
theorem dX5_count_126 : decode cX5_count 126 = .ok (.getfield 19, 3) := by decide +kernel
theorem dX5_count_129 : decode cX5_count 129 = .ok (.invokevirtual 214, 3) := by decide +kernel
theorem dX5_count_132 : decode cX5_count 132 = .ok (.ireturn, 1) := by decide +kernel
theorem dX5_count_133 : decode cX5_count 133 = .ok (.aload_n 0, 1) := by decide +kernel
theorem dX5_count_134 : decode cX5_count 134 = .ok (.invokevirtual 217, 3) := by decide +kernel
theorem dX5_count_137 : decode cX5_count 137 = .ok (.ireturn, 1) := by decide +kernel
theorem dX5_count_138 : decode cX5_count 138 = .ok (.aload_n 0, 1) := by decide +kernel
theorem dX5_count_139 : decode cX5_count 139 = .ok (.aload_n 0, 1) := by decide +kernel
theorem dX5_count_140 : decode cX5_count 140 = .ok (.getfield 10, 3) := by decide +kernel
theorem dX5_count_143 : decode cX5_count 143 = .ok (.aload_n 0, 1) := by decide +kernel
theorem dX5_count_144 : decode cX5_count 144 = .ok (.getfield 19, 3) := by decide +kernel
theorem dX5_count_147 : decode cX5_count 147 = .ok (.invokevirtual 220, 3) := by decide +kernel
theorem dX5_count_150 : decode cX5_count 150 = .ok (.ireturn, 1) := by decide +kernel
theorem dX5_count_151 : decode cX5_count 151 = .ok (.aload_n 0, 1) := by decide +kernel
theorem dX5_count_152 : decode cX5_count 152 = .ok (.getfield 39, 3) := by decide +kernel
theorem dX5_count_155 : decode cX5_count 155 = .ok (.getfield 122, 3) := by decide +kernel
theorem dX5_count_158 : decode cX5_count 158 = .ok (.ireturn, 1) := by decide +kernel
theorem dX5_count_159 : decode cX5_count 159 = .ok (.aload_n 0, 1) := by decide +kernel
theorem dX5_count_160 : decode cX5_count 160 = .ok (.getfield 46, 3) := by decide +kernel
theorem dX5_count_163 : decode cX5_count 163 = .ok (.getfield 224, 3) := by decide +kernel
theorem dX5_count_166 : decode cX5_count 166 = .ok (.ireturn, 1) := by decide +kernel
theorem dX5_count_167 : decode cX5_count 167 = .ok (.bipush (-102), 2) := by decide +kernel
theorem dX5_count_169 : decode cX5_count 169 = .ok (.ireturn, 1) := by decide +kernel
theorem dX5_kerb_0 : decode cX5_kerb 0 = .ok (.iload_n 1, 1) := by decide +kernel
theorem dX5_kerb_1 : decode cX5_kerb 1 = .ok (.iconst 0, 1) := by decide +kernel
theorem dX5_kerb_2 : decode cX5_kerb 2 = .ok (.sipush 3000, 3) := by decide +kernel
theorem dX5_kerb_5 : decode cX5_kerb 5 = .ok (.invokestatic 54, 3) := by decide +kernel
theorem dX5_kerb_8 : decode cX5_kerb 8 = .ok (.ifCond .ne 6, 3) := by decide +kernel
theorem dX5_kerb_11 : decode cX5_kerb 11 = .ok (.bipush (-102), 2) := by decide +kernel
theorem dX5_kerb_13 : decode cX5_kerb 13 = .ok (.ireturn, 1) := by decide +kernel
theorem dX5_kerb_14 : decode cX5_kerb 14 = .ok (.iconst 0, 1) := by decide +kernel
theorem dX5_kerb_15 : decode cX5_kerb 15 = .ok (.istore_n 2, 1) := by decide +kernel
theorem dX5_kerb_16 : decode cX5_kerb 16 = .ok (.iconst 0, 1) := by decide +kernel
theorem dX5_kerb_17 : decode cX5_kerb 17 = .ok (.istore_n 3, 1) := by decide +kernel
theorem dX5_kerb_18 : decode cX5_kerb 18 = .ok (.iload_n 3, 1) := by decide +kernel
theorem dX5_kerb_19 : decode cX5_kerb 19 = .ok (.aload_n 0, 1) := by decide +kernel
theorem dX5_kerb_20 : decode cX5_kerb 20 = .ok (.getfield 10, 3) := by decide +kernel
theorem dX5_kerb_23 : decode cX5_kerb 23 = .ok (.getfield 105, 3) := by decide +kernel
theorem dX5_kerb_26 : decode cX5_kerb 26 = .ok (.if_icmp .ge 37, 3) := by decide +kernel
theorem dX5_kerb_29 : decode cX5_kerb 29 = .ok (.aload_n 0, 1) := by decide +kernel
theorem dX5_kerb_30 : decode cX5_kerb 30 = .ok (.getfield 19, 3) := by decide +kernel
theorem dX5_kerb_33 : decode cX5_kerb 33 = .ok (.aload_n 0, 1) := by decide +kernel
theorem dX5_kerb_34 : decode cX5_kerb 34 = .ok (.getfield 10, 3) := by decide +kernel
theorem dX5_kerb_37 : decode cX5_kerb 37 = .ok (.iload_n 3, 1) := by decide +kernel
theorem dX5_kerb_38 : decode cX5_kerb 38 = .ok (.iload_n 1, 1) := by decide +kernel
theorem dX5_kerb_39 : decode cX5_kerb 39 = .ok (.invokevirtual 227, 3) := by decide +kernel
theorem dX5_kerb_42 : decode cX5_kerb 42 = .ok (.ifCond .eq 15, 3) := by decide +kernel
theorem dX5_kerb_45 : decode cX5_kerb 45 = .ok (.iload_n 2, 1) := by decide +kernel
theorem dX5_kerb_46 : decode cX5_kerb 46 = .ok (.aload_n 0, 1) := by decide +kernel
theorem dX5_kerb_47 : decode cX5_kerb 47 = .ok (.getfield 10, 3) := by decide +kernel
theorem dX5_kerb_50 : decode cX5_kerb 50 = .ok (.getfield 148, 3) := by decide +kernel
theorem dX5_kerb_53 : decode cX5_kerb 53 = .ok (.iload_n 3, 1) := by decide +kernel
theorem dX5_kerb_54 : decode cX5_kerb 54 = .ok (.iaload, 1) := by decide +kernel
theorem dX5_kerb_55 : decode cX5_kerb 55 = .ok (.iadd, 1) := by decide +kernel
theorem dX5_kerb_56 : decode cX5_kerb 56 = .ok (.istore_n 2, 1) := by decide +kernel
theorem dX5_kerb_57 : decode cX5_kerb 57 = .ok (.iinc 3 1, 3) := by decide +kernel
theorem dX5_kerb_60 : decode cX5_kerb 60 = .ok (.goto (-42), 3) := by decide +kernel
theorem dX5_kerb_63 : decode cX5_kerb 63 = .ok (.iload_n 2, 1) := by decide +kernel
theorem dX5_kerb_64 : decode cX5_kerb 64 = .ok (.ireturn, 1) := by decide +kernel
theorem dX5_ifDelayed_0 : decode cX5_ifDelayed 0 = .ok (.iload_n 1, 1) := by decide +kernel
theorem dX5_ifDelayed_1 : decode cX5_ifDelayed 1 = .ok (.invokestatic 75, 3) := by decide +kernel
theorem dX5_ifDelayed_4 : decode cX5_ifDelayed 4 = .ok (.ifCond .ne 6, 3) := by decide +kernel
theorem dX5_ifDelayed_7 : decode cX5_ifDelayed 7 = .ok (.bipush (-101), 2) := by decide +kernel
theorem dX5_ifDelayed_9 : decode cX5_ifDelayed 9 = .ok (.ireturn, 1) := by decide +kernel
theorem dX5_ifDelayed_10 : decode cX5_ifDelayed 10 = .ok (.iload_n 2, 1) := by decide +kernel
theorem dX5_ifDelayed_11 : decode cX5_ifDelayed 11 = .ok (.invokestatic 82, 3) := by decide +kernel
theorem dX5_ifDelayed_14 : decode cX5_ifDelayed 14 = .ok (.ifCond .eq 12, 3) := by decide +kernel
theorem dX5_ifDelayed_17 : decode cX5_ifDelayed 17 = .ok (.iload_n 3, 1) := by decide +kernel
theorem dX5_ifDelayed_18 : decode cX5_ifDelayed 18 = .ok (.iconst 0, 1) := by decide +kernel
theorem dX5_ifDelayed_19 : decode cX5_ifDelayed 19 = .ok (.iconst 2, 1) := by decide +kernel
theorem dX5_ifDelayed_20 : decode cX5_ifDelayed 20 = .ok (.invokestatic 54, 3) := by decide +kernel
theorem dX5_ifDelayed_23 : decode cX5_ifDelayed 23 = .ok (.ifCond .ne 6, 3) := by decide +kernel
theorem dX5_ifDelayed_26 : decode cX5_ifDelayed 26 = .ok (.bipush (-102), 2) := by decide +kernel
theorem dX5_ifDelayed_28 : decode cX5_ifDelayed 28 = .ok (.ireturn, 1) := by decide +kernel
theorem dX5_ifDelayed_29 : decode cX5_ifDelayed 29 = .ok (.aload_n 0, 1) := by decide +kernel
theorem dX5_ifDelayed_30 : decode cX5_ifDelayed 30 = .ok (.getfield 30, 3) := by decide +kernel
theorem dX5_ifDelayed_33 : decode cX5_ifDelayed 33 = .ok (.aload_n 0, 1) := by decide +kernel
theorem dX5_ifDelayed_34 : decode cX5_ifDelayed 34 = .ok (.getfield 10, 3) := by decide +kernel
theorem dX5_ifDelayed_37 : decode cX5_ifDelayed 37 = .ok (.invokevirtual 231, 3) := by decide +kernel
theorem dX5_ifDelayed_40 : decode cX5_ifDelayed 40 = .ok (.aload_n 0, 1) := by decide +kernel
theorem dX5_ifDelayed_41 : decode cX5_ifDelayed 41 = .ok (.getfield 30, 3) := by decide +kernel
theorem dX5_ifDelayed_44 : decode cX5_ifDelayed 44 = .ok (.getfield 85, 3) := by decide +kernel
theorem dX5_ifDelayed_47 : decode cX5_ifDelayed 47 = .ok (.iload_n 1, 1) := by decide +kernel
theorem dX5_ifDelayed_48 : decode cX5_ifDelayed 48 = .ok (.iload_n 2, 1) := by decide +kernel
theorem dX5_ifDelayed_49 : decode cX5_ifDelayed 49 = .ok (.iastore, 1) := by decide +kernel
theorem dX5_ifDelayed_50 : decode cX5_ifDelayed 50 = .ok (.aload_n 0, 1) := by decide +kernel
theorem dX5_ifDelayed_51 : decode cX5_ifDelayed 51 = .ok (.getfield 33, 3) := by decide +kernel
theorem dX5_ifDelayed_54 : decode cX5_ifDelayed 54 = .ok (.aload_n 0, 1) := by decide +kernel
theorem dX5_ifDelayed_55 : decode cX5_ifDelayed 55 = .ok (.getfield 30, 3) := by decide +kernel
theorem dX5_ifDelayed_58 : decode cX5_ifDelayed 58 = .ok (.invokevirtual 72, 3) := by decide +kernel
theorem dX5_ifDelayed_61 : decode cX5_ifDelayed 61 = .ok (.iload_n 3, 1) := by decide +kernel
theorem dX5_ifDelayed_62 : decode cX5_ifDelayed 62 = .ok (.ifCond .ne 11, 3) := by decide +kernel
theorem dX5_ifDelayed_65 : decode cX5_ifDelayed 65 = .ok (.aload_n 0, 1) := by decide +kernel
theorem dX5_ifDelayed_66 : decode cX5_ifDelayed 66 = .ok (.getfield 33, 3) := by decide +kernel
theorem dX5_ifDelayed_69 : decode cX5_ifDelayed 69 = .ok (.getfield 101, 3) := by decide +kernel
theorem dX5_ifDelayed_72 : decode cX5_ifDelayed 72 = .ok (.ireturn, 1) := by decide +kernel
theorem dX5_ifDelayed_73 : decode cX5_ifDelayed 73 = .ok (.iload_n 3, 1) := by decide +kernel
theorem dX5_ifDelayed_74 : decode cX5_ifDelayed 74 = .ok (.iconst 1, 1) := by decide +kernel
theorem dX5_ifDelayed_75 : decode cX5_ifDelayed 75 = .ok (.if_icmp .ne 11, 3) := by decide +kernel
theorem dX5_ifDelayed_78 : decode cX5_ifDelayed 78 = .ok (.aload_n 0, 1) := by decide +kernel
theorem dX5_ifDelayed_79 : decode cX5_ifDelayed 79 = .ok (.getfield 33, 3) := by decide +kernel
theorem dX5_ifDelayed_82 : decode cX5_ifDelayed 82 = .ok (.getfield 208, 3) := by decide +kernel
theorem dX5_ifDelayed_85 : decode cX5_ifDelayed 85 = .ok (.ireturn, 1) := by decide +kernel
theorem dX5_ifDelayed_86 : decode cX5_ifDelayed 86 = .ok (.aload_n 0, 1) := by decide +kernel
theorem dX5_ifDelayed_87 : decode cX5_ifDelayed 87 = .ok (.aload_n 0, 1) := by decide +kernel
theorem dX5_ifDelayed_88 : decode cX5_ifDelayed 88 = .ok (.getfield 30, 3) := by decide +kernel
theorem dX5_ifDelayed_91 : decode cX5_ifDelayed 91 = .ok (.aload_n 0, 1) := by decide +kernel
theorem dX5_ifDelayed_92 : decode cX5_ifDelayed 92 = .ok (.getfield 33, 3) := by decide +kernel
theorem dX5_ifDelayed_95 : decode cX5_ifDelayed 95 = .ok (.invokevirtual 220, 3) := by decide +kernel
theorem dX5_ifDelayed_98 : decode cX5_ifDelayed 98 = .ok (.ireturn, 1) := by decide +kernel
theorem dX5_mostDelay_0 : decode cX5_mostDelay 0 = .ok (.iload_n 1, 1) := by decide +kernel
theorem dX5_mostDelay_1 : decode cX5_mostDelay 1 = .ok (.invokestatic 75, 3) := by decide +kernel
theorem dX5_mostDelay_4 : decode cX5_mostDelay 4 = .ok (.ifCond .ne 6, 3) := by decide +kernel
theorem dX5_mostDelay_7 : decode cX5_mostDelay 7 = .ok (.bipush (-101), 2) := by decide +kernel
theorem dX5_mostDelay_9 : decode cX5_mostDelay 9 = .ok (.ireturn, 1) := by decide +kernel
theorem dX5_mostDelay_10 : decode cX5_mostDelay 10 = .ok (.aload_n 0, 1) := by decide +kernel
theorem dX5_mostDelay_11 : decode cX5_mostDelay 11 = .ok (.getfield 30, 3) := by decide +kernel
theorem dX5_mostDelay_14 : decode cX5_mostDelay 14 = .ok (.aload_n 0, 1) := by decide +kernel
theorem dX5_mostDelay_15 : decode cX5_mostDelay 15 = .ok (.getfield 10, 3) := by decide +kernel
theorem dX5_mostDelay_18 : decode cX5_mostDelay 18 = .ok (.invokevirtual 231, 3) := by decide +kernel
theorem dX5_mostDelay_21 : decode cX5_mostDelay 21 = .ok (.sipush 300, 3) := by decide +kernel
theorem dX5_mostDelay_24 : decode cX5_mostDelay 24 = .ok (.istore_n 2, 1) := by decide +kernel
theorem dX5_mostDelay_25 : decode cX5_mostDelay 25 = .ok (.iload_n 2, 1) := by decide +kernel
theorem dX5_mostDelay_26 : decode cX5_mostDelay 26 = .ok (.bipush (-30), 2) := by decide +kernel
theorem dX5_mostDelay_28 : decode cX5_mostDelay 28 = .ok (.if_icmp .le 49, 3) := by decide +kernel
theorem dX5_mostDelay_31 : decode cX5_mostDelay 31 = .ok (.aload_n 0, 1) := by decide +kernel
theorem dX5_mostDelay_32 : decode cX5_mostDelay 32 = .ok (.getfield 30, 3) := by decide +kernel
theorem dX5_mostDelay_35 : decode cX5_mostDelay 35 = .ok (.getfield 85, 3) := by decide +kernel
theorem dX5_mostDelay_38 : decode cX5_mostDelay 38 = .ok (.iload_n 1, 1) := by decide +kernel
theorem dX5_mostDelay_39 : decode cX5_mostDelay 39 = .ok (.iload_n 2, 1) := by decide +kernel
theorem dX5_mostDelay_40 : decode cX5_mostDelay 40 = .ok (.iastore, 1) := by decide +kernel
theorem dX5_mostDelay_41 : decode cX5_mostDelay 41 = .ok (.aload_n 0, 1) := by decide +kernel
theorem dX5_mostDelay_42 : decode cX5_mostDelay 42 = .ok (.getfield 33, 3) := by decide +kernel
theorem dX5_mostDelay_45 : decode cX5_mostDelay 45 = .ok (.aload_n 0, 1) := by decide +kernel
theorem dX5_mostDelay_46 : decode cX5_mostDelay 46 = .ok (.getfield 30, 3) := by decide +kernel
theorem dX5_mostDelay_49 : decode cX5_mostDelay 49 = .ok (.invokevirtual 72, 3) := by decide +kernel
theorem dX5_mostDelay_52 : decode cX5_mostDelay 52 = .ok (.aload_n 0, 1) := by decide +kernel
theorem dX5_mostDelay_53 : decode cX5_mostDelay 53 = .ok (.getfield 33, 3) := by decide +kernel
theorem dX5_mostDelay_56 : decode cX5_mostDelay 56 = .ok (.getfield 101, 3) := by decide +kernel
theorem dX5_mostDelay_59 : decode cX5_mostDelay 59 = .ok (.aload_n 0, 1) := by decide +kernel
theorem dX5_mostDelay_60 : decode cX5_mostDelay 60 = .ok (.getfield 19, 3) := by decide +kernel
theorem dX5_mostDelay_63 : decode cX5_mostDelay 63 = .ok (.getfield 101, 3) := by decide +kernel
theorem dX5_mostDelay_66 : decode cX5_mostDelay 66 = .ok (.if_icmp .gt 5, 3) := by decide +kernel
theorem dX5_mostDelay_69 : decode cX5_mostDelay 69 = .ok (.iload_n 2, 1) := by decide +kernel
theorem dX5_mostDelay_70 : decode cX5_mostDelay 70 = .ok (.ireturn, 1) := by decide +kernel
theorem dX5_mostDelay_71 : decode cX5_mostDelay 71 = .ok (.iinc 2 (-1), 3) := by decide +kernel
theorem dX5_mostDelay_74 : decode cX5_mostDelay 74 = .ok (.goto (-49), 3) := by decide +kernel
theorem dX5_mostDelay_77 : decode cX5_mostDelay 77 = .ok (.bipush (-30), 2) := by decide +kernel
theorem dX5_mostDelay_79 : decode cX5_mostDelay 79 = .ok (.ireturn, 1) := by decide +kernel
theorem dX5_bestMinute_0 : decode cX5_bestMinute 0 = .ok (.iload_n 1, 1) := by decide +kernel
theorem dX5_bestMinute_1 : decode cX5_bestMinute 1 = .ok (.invokestatic 92, 3) := by decide +kernel
theorem dX5_bestMinute_4 : decode cX5_bestMinute 4 = .ok (.ifCond .ne 6, 3) := by decide +kernel
theorem dX5_bestMinute_7 : decode cX5_bestMinute 7 = .ok (.bipush (-101), 2) := by decide +kernel
theorem dX5_bestMinute_9 : decode cX5_bestMinute 9 = .ok (.ireturn, 1) := by decide +kernel
theorem dX5_bestMinute_10 : decode cX5_bestMinute 10 = .ok (.iconst 0, 1) := by decide +kernel
theorem dX5_bestMinute_11 : decode cX5_bestMinute 11 = .ok (.istore_n 2, 1) := by decide +kernel
theorem dX5_bestMinute_12 : decode cX5_bestMinute 12 = .ok (.iconst 0, 1) := by decide +kernel
theorem dX5_bestMinute_13 : decode cX5_bestMinute 13 = .ok (.istore_n 3, 1) := by decide +kernel
theorem dX5_bestMinute_14 : decode cX5_bestMinute 14 = .ok (.iconst 0, 1) := by decide +kernel
theorem dX5_bestMinute_15 : decode cX5_bestMinute 15 = .ok (.istore 4, 2) := by decide +kernel
theorem dX5_bestMinute_17 : decode cX5_bestMinute 17 = .ok (.aload_n 0, 1) := by decide +kernel
theorem dX5_bestMinute_18 : decode cX5_bestMinute 18 = .ok (.getfield 30, 3) := by decide +kernel
theorem dX5_bestMinute_21 : decode cX5_bestMinute 21 = .ok (.aload_n 0, 1) := by decide +kernel
theorem dX5_bestMinute_22 : decode cX5_bestMinute 22 = .ok (.getfield 10, 3) := by decide +kernel
theorem dX5_bestMinute_25 : decode cX5_bestMinute 25 = .ok (.invokevirtual 231, 3) := by decide +kernel
theorem dX5_bestMinute_28 : decode cX5_bestMinute 28 = .ok (.aload_n 0, 1) := by decide +kernel
theorem dX5_bestMinute_29 : decode cX5_bestMinute 29 = .ok (.getfield 33, 3) := by decide +kernel
theorem dX5_bestMinute_32 : decode cX5_bestMinute 32 = .ok (.aload_n 0, 1) := by decide +kernel
theorem dX5_bestMinute_33 : decode cX5_bestMinute 33 = .ok (.getfield 30, 3) := by decide +kernel
theorem dX5_bestMinute_36 : decode cX5_bestMinute 36 = .ok (.invokevirtual 234, 3) := by decide +kernel
theorem dX5_bestMinute_39 : decode cX5_bestMinute 39 = .ok (.iconst 0, 1) := by decide +kernel
theorem dX5_bestMinute_40 : decode cX5_bestMinute 40 = .ok (.istore 5, 2) := by decide +kernel
theorem dX5_bestMinute_42 : decode cX5_bestMinute 42 = .ok (.iload 5, 2) := by decide +kernel
theorem dX5_bestMinute_44 : decode cX5_bestMinute 44 = .ok (.sipush 1500, 3) := by decide +kernel
theorem dX5_bestMinute_47 : decode cX5_bestMinute 47 = .ok (.if_icmp .gt 95, 3) := by decide +kernel
theorem dX5_bestMinute_50 : decode cX5_bestMinute 50 = .ok (.aload_n 0, 1) := by decide +kernel
theorem dX5_bestMinute_51 : decode cX5_bestMinute 51 = .ok (.getfield 30, 3) := by decide +kernel
theorem dX5_bestMinute_54 : decode cX5_bestMinute 54 = .ok (.getfield 95, 3) := by decide +kernel
theorem dX5_bestMinute_57 : decode cX5_bestMinute 57 = .ok (.iload_n 1, 1) := by decide +kernel
theorem dX5_bestMinute_58 : decode cX5_bestMinute 58 = .ok (.iload 5, 2) := by decide +kernel
theorem dX5_bestMinute_60 : decode cX5_bestMinute 60 = .ok (.iastore, 1) := by decide +kernel
theorem dX5_bestMinute_61 : decode cX5_bestMinute 61 = .ok (.aload_n 0, 1) := by decide +kernel
theorem dX5_bestMinute_62 : decode cX5_bestMinute 62 = .ok (.getfield 33, 3) := by decide +kernel
theorem dX5_bestMinute_65 : decode cX5_bestMinute 65 = .ok (.aload_n 0, 1) := by decide +kernel
theorem dX5_bestMinute_66 : decode cX5_bestMinute 66 = .ok (.getfield 30, 3) := by decide +kernel
theorem dX5_bestMinute_69 : decode cX5_bestMinute 69 = .ok (.invokevirtual 237, 3) := by decide +kernel
theorem dX5_bestMinute_72 : decode cX5_bestMinute 72 = .ok (.aload_n 0, 1) := by decide +kernel
theorem dX5_bestMinute_73 : decode cX5_bestMinute 73 = .ok (.getfield 33, 3) := by decide +kernel
theorem dX5_bestMinute_76 : decode cX5_bestMinute 76 = .ok (.getfield 101, 3) := by decide +kernel
theorem dX5_bestMinute_79 : decode cX5_bestMinute 79 = .ok (.istore 6, 2) := by decide +kernel
theorem dX5_bestMinute_81 : decode cX5_bestMinute 81 = .ok (.aload_n 0, 1) := by decide +kernel
theorem dX5_bestMinute_82 : decode cX5_bestMinute 82 = .ok (.getfield 33, 3) := by decide +kernel
theorem dX5_bestMinute_85 : decode cX5_bestMinute 85 = .ok (.getfield 208, 3) := by decide +kernel
theorem dX5_bestMinute_88 : decode cX5_bestMinute 88 = .ok (.istore 7, 2) := by decide +kernel
theorem dX5_bestMinute_90 : decode cX5_bestMinute 90 = .ok (.iload 6, 2) := by decide +kernel
theorem dX5_bestMinute_92 : decode cX5_bestMinute 92 = .ok (.iload_n 3, 1) := by decide +kernel
theorem dX5_bestMinute_93 : decode cX5_bestMinute 93 = .ok (.if_icmp .lt 16, 3) := by decide +kernel
theorem dX5_bestMinute_96 : decode cX5_bestMinute 96 = .ok (.iload 6, 2) := by decide +kernel
theorem dX5_bestMinute_98 : decode cX5_bestMinute 98 = .ok (.iload_n 3, 1) := by decide +kernel
theorem dX5_bestMinute_99 : decode cX5_bestMinute 99 = .ok (.if_icmp .ne 14, 3) := by decide +kernel
theorem dX5_bestMinute_102 : decode cX5_bestMinute 102 = .ok (.iload 7, 2) := by decide +kernel
theorem dX5_bestMinute_104 : decode cX5_bestMinute 104 = .ok (.iload 4, 2) := by decide +kernel
theorem dX5_bestMinute_106 : decode cX5_bestMinute 106 = .ok (.if_icmp .ge 7, 3) := by decide +kernel
theorem dX5_bestMinute_109 : decode cX5_bestMinute 109 = .ok (.iconst 1, 1) := by decide +kernel
theorem dX5_bestMinute_110 : decode cX5_bestMinute 110 = .ok (.goto 4, 3) := by decide +kernel
theorem dX5_bestMinute_113 : decode cX5_bestMinute 113 = .ok (.iconst 0, 1) := by decide +kernel
theorem dX5_bestMinute_114 : decode cX5_bestMinute 114 = .ok (.istore 8, 2) := by decide +kernel
theorem dX5_bestMinute_116 : decode cX5_bestMinute 116 = .ok (.iload 5, 2) := by decide +kernel
theorem dX5_bestMinute_118 : decode cX5_bestMinute 118 = .ok (.ifCond .eq 8, 3) := by decide +kernel
theorem dX5_bestMinute_121 : decode cX5_bestMinute 121 = .ok (.iload 8, 2) := by decide +kernel
theorem dX5_bestMinute_123 : decode cX5_bestMinute 123 = .ok (.ifCond .eq 13, 3) := by decide +kernel
theorem dX5_bestMinute_126 : decode cX5_bestMinute 126 = .ok (.iload 5, 2) := by decide +kernel
theorem dX5_bestMinute_128 : decode cX5_bestMinute 128 = .ok (.istore_n 2, 1) := by decide +kernel
theorem dX5_bestMinute_129 : decode cX5_bestMinute 129 = .ok (.iload 6, 2) := by decide +kernel
theorem dX5_bestMinute_131 : decode cX5_bestMinute 131 = .ok (.istore_n 3, 1) := by decide +kernel
theorem dX5_bestMinute_132 : decode cX5_bestMinute 132 = .ok (.iload 7, 2) := by decide +kernel
theorem dX5_bestMinute_134 : decode cX5_bestMinute 134 = .ok (.istore 4, 2) := by decide +kernel
theorem dX5_bestMinute_136 : decode cX5_bestMinute 136 = .ok (.iinc 5 5, 3) := by decide +kernel
theorem dX5_bestMinute_139 : decode cX5_bestMinute 139 = .ok (.goto (-97), 3) := by decide +kernel
theorem dX5_bestMinute_142 : decode cX5_bestMinute 142 = .ok (.iload_n 2, 1) := by decide +kernel
theorem dX5_bestMinute_143 : decode cX5_bestMinute 143 = .ok (.ireturn, 1) := by decide +kernel
theorem dX5_fullest_0 : decode cX5_fullest 0 = .ok (.bipush (-106), 2) := by decide +kernel
theorem dX5_fullest_2 : decode cX5_fullest 2 = .ok (.istore_n 1, 1) := by decide +kernel
theorem dX5_fullest_3 : decode cX5_fullest 3 = .ok (.iconst 0, 1) := by decide +kernel
theorem dX5_fullest_4 : decode cX5_fullest 4 = .ok (.istore_n 2, 1) := by decide +kernel
theorem dX5_fullest_5 : decode cX5_fullest 5 = .ok (.iconst 0, 1) := by decide +kernel
theorem dX5_fullest_6 : decode cX5_fullest 6 = .ok (.istore_n 3, 1) := by decide +kernel
theorem dX5_fullest_7 : decode cX5_fullest 7 = .ok (.iload_n 3, 1) := by decide +kernel
theorem dX5_fullest_8 : decode cX5_fullest 8 = .ok (.bipush 8, 2) := by decide +kernel
theorem dX5_fullest_10 : decode cX5_fullest 10 = .ok (.if_icmp .ge 34, 3) := by decide +kernel
theorem dX5_fullest_13 : decode cX5_fullest 13 = .ok (.aload_n 0, 1) := by decide +kernel
theorem dX5_fullest_14 : decode cX5_fullest 14 = .ok (.getfield 19, 3) := by decide +kernel
theorem dX5_fullest_17 : decode cX5_fullest 17 = .ok (.getfield 167, 3) := by decide +kernel
theorem dX5_fullest_20 : decode cX5_fullest 20 = .ok (.iload_n 3, 1) := by decide +kernel
theorem dX5_fullest_21 : decode cX5_fullest 21 = .ok (.iaload, 1) := by decide +kernel
theorem dX5_fullest_22 : decode cX5_fullest 22 = .ok (.iload_n 2, 1) := by decide +kernel
theorem dX5_fullest_23 : decode cX5_fullest 23 = .ok (.if_icmp .le 15, 3) := by decide +kernel
theorem dX5_fullest_26 : decode cX5_fullest 26 = .ok (.iload_n 3, 1) := by decide +kernel
theorem dX5_fullest_27 : decode cX5_fullest 27 = .ok (.istore_n 1, 1) := by decide +kernel
theorem dX5_fullest_28 : decode cX5_fullest 28 = .ok (.aload_n 0, 1) := by decide +kernel
theorem dX5_fullest_29 : decode cX5_fullest 29 = .ok (.getfield 19, 3) := by decide +kernel
theorem dX5_fullest_32 : decode cX5_fullest 32 = .ok (.getfield 167, 3) := by decide +kernel
theorem dX5_fullest_35 : decode cX5_fullest 35 = .ok (.iload_n 3, 1) := by decide +kernel
theorem dX5_fullest_36 : decode cX5_fullest 36 = .ok (.iaload, 1) := by decide +kernel
theorem dX5_fullest_37 : decode cX5_fullest 37 = .ok (.istore_n 2, 1) := by decide +kernel
theorem dX5_fullest_38 : decode cX5_fullest 38 = .ok (.iinc 3 1, 3) := by decide +kernel
theorem dX5_fullest_41 : decode cX5_fullest 41 = .ok (.goto (-34), 3) := by decide +kernel
theorem dX5_fullest_44 : decode cX5_fullest 44 = .ok (.iload_n 1, 1) := by decide +kernel
theorem dX5_fullest_45 : decode cX5_fullest 45 = .ok (.ireturn, 1) := by decide +kernel
theorem dX5_put_0 : decode cX5_put 0 = .ok (.lload_n 1, 1) := by decide +kernel
theorem dX5_put_1 : decode cX5_put 1 = .ok (.invokestatic 240, 3) := by decide +kernel
theorem dX5_put_4 : decode cX5_put 4 = .ok (.istore_n 3, 1) := by decide +kernel
theorem dX5_put_5 : decode cX5_put 5 = .ok (.iload_n 3, 1) := by decide +kernel
theorem dX5_put_6 : decode cX5_put 6 = .ok (.ifCond .ne 6, 3) := by decide +kernel
theorem dX5_put_9 : decode cX5_put 9 = .ok (.bipush (-102), 2) := by decide +kernel
theorem dX5_put_11 : decode cX5_put 11 = .ok (.ireturn, 1) := by decide +kernel
theorem dX5_put_12 : decode cX5_put 12 = .ok (.aload_n 0, 1) := by decide +kernel
theorem dX5_put_13 : decode cX5_put 13 = .ok (.getfield 39, 3) := by decide +kernel
theorem dX5_put_16 : decode cX5_put 16 = .ok (.getfield 122, 3) := by decide +kernel
theorem dX5_put_19 : decode cX5_put 19 = .ok (.iload_n 3, 1) := by decide +kernel
theorem dX5_put_20 : decode cX5_put 20 = .ok (.iadd, 1) := by decide +kernel
theorem dX5_put_21 : decode cX5_put 21 = .ok (.bipush 60, 2) := by decide +kernel
theorem dX5_put_23 : decode cX5_put 23 = .ok (.if_icmp .le 6, 3) := by decide +kernel
theorem dX5_put_26 : decode cX5_put 26 = .ok (.bipush (-104), 2) := by decide +kernel
theorem dX5_put_28 : decode cX5_put 28 = .ok (.ireturn, 1) := by decide +kernel
theorem dX5_put_29 : decode cX5_put 29 = .ok (.aload_n 0, 1) := by decide +kernel
theorem dX5_put_30 : decode cX5_put 30 = .ok (.getfield 39, 3) := by decide +kernel
theorem dX5_put_33 : decode cX5_put 33 = .ok (.lload_n 1, 1) := by decide +kernel
theorem dX5_put_34 : decode cX5_put 34 = .ok (.iload_n 3, 1) := by decide +kernel
theorem dX5_put_35 : decode cX5_put 35 = .ok (.invokevirtual 244, 3) := by decide +kernel
theorem dX5_put_38 : decode cX5_put 38 = .ok (.aload_n 0, 1) := by decide +kernel
theorem dX5_put_39 : decode cX5_put 39 = .ok (.getfield 39, 3) := by decide +kernel
theorem dX5_put_42 : decode cX5_put 42 = .ok (.getfield 122, 3) := by decide +kernel
theorem dX5_put_45 : decode cX5_put 45 = .ok (.ireturn, 1) := by decide +kernel
theorem dX5_wipe_0 : decode cX5_wipe 0 = .ok (.aload_n 0, 1) := by decide +kernel
theorem dX5_wipe_1 : decode cX5_wipe 1 = .ok (.getfield 39, 3) := by decide +kernel
theorem dX5_wipe_4 : decode cX5_wipe 4 = .ok (.getfield 122, 3) := by decide +kernel
theorem dX5_wipe_7 : decode cX5_wipe 7 = .ok (.istore_n 1, 1) := by decide +kernel
theorem dX5_wipe_8 : decode cX5_wipe 8 = .ok (.aload_n 0, 1) := by decide +kernel
theorem dX5_wipe_9 : decode cX5_wipe 9 = .ok (.getfield 39, 3) := by decide +kernel
theorem dX5_wipe_12 : decode cX5_wipe 12 = .ok (.iconst 0, 1) := by decide +kernel
theorem dX5_wipe_13 : decode cX5_wipe 13 = .ok (.putfield 122, 3) := by decide +kernel
theorem dX5_wipe_16 : decode cX5_wipe 16 = .ok (.iload_n 1, 1) := by decide +kernel
theorem dX5_wipe_17 : decode cX5_wipe 17 = .ok (.ireturn, 1) := by decide +kernel
theorem dX5_fault_0 : decode cX5_fault 0 = .ok (.aload_n 0, 1) := by decide +kernel
theorem dX5_fault_1 : decode cX5_fault 1 = .ok (.getfield 39, 3) := by decide +kernel
theorem dX5_fault_4 : decode cX5_fault 4 = .ok (.invokevirtual 112, 3) := by decide +kernel
theorem dX5_fault_7 : decode cX5_fault 7 = .ok (.ireturn, 1) := by decide +kernel
theorem dX5_undo_0 : decode cX5_undo 0 = .ok (.aload_n 0, 1) := by decide +kernel
theorem dX5_undo_1 : decode cX5_undo 1 = .ok (.getfield 46, 3) := by decide +kernel
theorem dX5_undo_4 : decode cX5_undo 4 = .ok (.getfield 224, 3) := by decide +kernel
theorem dX5_undo_7 : decode cX5_undo 7 = .ok (.ifCond .ne 6, 3) := by decide +kernel
theorem dX5_undo_10 : decode cX5_undo 10 = .ok (.bipush (-105), 2) := by decide +kernel
theorem dX5_undo_12 : decode cX5_undo 12 = .ok (.ireturn, 1) := by decide +kernel
theorem dX5_undo_13 : decode cX5_undo 13 = .ok (.aload_n 0, 1) := by decide +kernel
theorem dX5_undo_14 : decode cX5_undo 14 = .ok (.getfield 46, 3) := by decide +kernel
theorem dX5_undo_17 : decode cX5_undo 17 = .ok (.aload_n 0, 1) := by decide +kernel
theorem dX5_undo_18 : decode cX5_undo 18 = .ok (.getfield 10, 3) := by decide +kernel
theorem dX5_undo_21 : decode cX5_undo 21 = .ok (.invokevirtual 248, 3) := by decide +kernel
theorem dX5_undo_24 : decode cX5_undo 24 = .ok (.aload_n 0, 1) := by decide +kernel
theorem dX5_undo_25 : decode cX5_undo 25 = .ok (.getfield 19, 3) := by decide +kernel
theorem dX5_undo_28 : decode cX5_undo 28 = .ok (.aload_n 0, 1) := by decide +kernel
theorem dX5_undo_29 : decode cX5_undo 29 = .ok (.getfield 10, 3) := by decide +kernel
theorem dX5_undo_32 : decode cX5_undo 32 = .ok (.invokevirtual 72, 3) := by decide +kernel
theorem dX5_undo_35 : decode cX5_undo 35 = .ok (.aload_n 0, 1) := by decide +kernel
theorem dX5_undo_36 : decode cX5_undo 36 = .ok (.getfield 46, 3) := by decide +kernel
theorem dX5_undo_39 : decode cX5_undo 39 = .ok (.getfield 224, 3) := by decide +kernel
theorem dX5_undo_42 : decode cX5_undo 42 = .ok (.ireturn, 1) := by decide +kernel
theorem dX5_save_0 : decode cX5_save 0 = .ok (.iload_n 1, 1) := by decide +kernel
theorem dX5_save_1 : decode cX5_save 1 = .ok (.invokestatic 251, 3) := by decide +kernel
theorem dX5_save_4 : decode cX5_save 4 = .ok (.ifCond .ne 6, 3) := by decide +kernel
theorem dX5_save_7 : decode cX5_save 7 = .ok (.bipush (-102), 2) := by decide +kernel
theorem dX5_save_9 : decode cX5_save 9 = .ok (.ireturn, 1) := by decide +kernel
theorem dX5_save_10 : decode cX5_save 10 = .ok (.aload_n 0, 1) := by decide +kernel
theorem dX5_save_11 : decode cX5_save 11 = .ok (.getfield 50, 3) := by decide +kernel
theorem dX5_save_14 : decode cX5_save 14 = .ok (.iload_n 1, 1) := by decide +kernel
theorem dX5_save_15 : decode cX5_save 15 = .ok (.aaload, 1) := by decide +kernel
theorem dX5_save_16 : decode cX5_save 16 = .ok (.astore_n 2, 1) := by decide +kernel
theorem dX5_save_17 : decode cX5_save 17 = .ok (.aload_n 2, 1) := by decide +kernel
theorem dX5_save_18 : decode cX5_save 18 = .ok (.ifnonnull 18, 3) := by decide +kernel
theorem dX5_save_21 : decode cX5_save 21 = .ok (.new 7, 3) := by decide +kernel
theorem dX5_save_24 : decode cX5_save 24 = .ok (.dup, 1) := by decide +kernel
theorem dX5_save_25 : decode cX5_save 25 = .ok (.invokespecial 9, 3) := by decide +kernel
theorem dX5_save_28 : decode cX5_save 28 = .ok (.astore_n 2, 1) := by decide +kernel
theorem dX5_save_29 : decode cX5_save 29 = .ok (.aload_n 0, 1) := by decide +kernel
theorem dX5_save_30 : decode cX5_save 30 = .ok (.getfield 50, 3) := by decide +kernel
theorem dX5_save_33 : decode cX5_save 33 = .ok (.iload_n 1, 1) := by decide +kernel
theorem dX5_save_34 : decode cX5_save 34 = .ok (.aload_n 2, 1) := by decide +kernel
theorem dX5_save_35 : decode cX5_save 35 = .ok (.aastore, 1) := by decide +kernel
theorem dX5_save_36 : decode cX5_save 36 = .ok (.aload_n 2, 1) := by decide +kernel
theorem dX5_save_37 : decode cX5_save 37 = .ok (.aload_n 0, 1) := by decide +kernel
theorem dX5_save_38 : decode cX5_save 38 = .ok (.getfield 10, 3) := by decide +kernel
theorem dX5_save_41 : decode cX5_save 41 = .ok (.invokevirtual 231, 3) := by decide +kernel
theorem dX5_save_44 : decode cX5_save 44 = .ok (.aload_n 0, 1) := by decide +kernel
theorem dX5_save_45 : decode cX5_save 45 = .ok (.getfield 10, 3) := by decide +kernel
theorem dX5_save_48 : decode cX5_save 48 = .ok (.getfield 105, 3) := by decide +kernel
theorem dX5_save_51 : decode cX5_save 51 = .ok (.ireturn, 1) := by decide +kernel
theorem dX5_restore_0 : decode cX5_restore 0 = .ok (.iload_n 1, 1) := by decide +kernel
theorem dX5_restore_1 : decode cX5_restore 1 = .ok (.invokestatic 251, 3) := by decide +kernel
theorem dX5_restore_4 : decode cX5_restore 4 = .ok (.ifCond .ne 6, 3) := by decide +kernel
theorem dX5_restore_7 : decode cX5_restore 7 = .ok (.bipush (-102), 2) := by decide +kernel
theorem dX5_restore_9 : decode cX5_restore 9 = .ok (.ireturn, 1) := by decide +kernel
theorem dX5_restore_10 : decode cX5_restore 10 = .ok (.aload_n 0, 1) := by decide +kernel
theorem dX5_restore_11 : decode cX5_restore 11 = .ok (.getfield 50, 3) := by decide +kernel
theorem dX5_restore_14 : decode cX5_restore 14 = .ok (.iload_n 1, 1) := by decide +kernel
theorem dX5_restore_15 : decode cX5_restore 15 = .ok (.aaload, 1) := by decide +kernel
theorem dX5_restore_16 : decode cX5_restore 16 = .ok (.astore_n 2, 1) := by decide +kernel
theorem dX5_restore_17 : decode cX5_restore 17 = .ok (.aload_n 2, 1) := by decide +kernel
theorem dX5_restore_18 : decode cX5_restore 18 = .ok (.ifnonnull 6, 3) := by decide +kernel
theorem dX5_restore_21 : decode cX5_restore 21 = .ok (.bipush (-105), 2) := by decide +kernel
theorem dX5_restore_23 : decode cX5_restore 23 = .ok (.ireturn, 1) := by decide +kernel
theorem dX5_restore_24 : decode cX5_restore 24 = .ok (.aload_n 0, 1) := by decide +kernel
theorem dX5_restore_25 : decode cX5_restore 25 = .ok (.getfield 46, 3) := by decide +kernel
theorem dX5_restore_28 : decode cX5_restore 28 = .ok (.aload_n 0, 1) := by decide +kernel
theorem dX5_restore_29 : decode cX5_restore 29 = .ok (.getfield 10, 3) := by decide +kernel
theorem dX5_restore_32 : decode cX5_restore 32 = .ok (.invokevirtual 68, 3) := by decide +kernel
theorem dX5_restore_35 : decode cX5_restore 35 = .ok (.aload_n 0, 1) := by decide +kernel
theorem dX5_restore_36 : decode cX5_restore 36 = .ok (.getfield 10, 3) := by decide +kernel
theorem dX5_restore_39 : decode cX5_restore 39 = .ok (.aload_n 2, 1) := by decide +kernel
theorem dX5_restore_40 : decode cX5_restore 40 = .ok (.invokevirtual 231, 3) := by decide +kernel
theorem dX5_restore_43 : decode cX5_restore 43 = .ok (.aload_n 0, 1) := by decide +kernel
theorem dX5_restore_44 : decode cX5_restore 44 = .ok (.getfield 19, 3) := by decide +kernel
theorem dX5_restore_47 : decode cX5_restore 47 = .ok (.aload_n 0, 1) := by decide +kernel
theorem dX5_restore_48 : decode cX5_restore 48 = .ok (.getfield 10, 3) := by decide +kernel
theorem dX5_restore_51 : decode cX5_restore 51 = .ok (.invokevirtual 72, 3) := by decide +kernel
theorem dX5_restore_54 : decode cX5_restore 54 = .ok (.aload_n 0, 1) := by decide +kernel
theorem dX5_restore_55 : decode cX5_restore 55 = .ok (.getfield 10, 3) := by decide +kernel
theorem dX5_restore_58 : decode cX5_restore 58 = .ok (.getfield 105, 3) := by decide +kernel
theorem dX5_restore_61 : decode cX5_restore 61 = .ok (.ireturn, 1) := by decide +kernel
theorem dX5_isIn_0 : decode cX5_isIn 0 = .ok (.iload_n 0, 1) := by decide +kernel
theorem dX5_isIn_1 : decode cX5_isIn 1 = .ok (.iload_n 1, 1) := by decide +kernel
theorem dX5_isIn_2 : decode cX5_isIn 2 = .ok (.if_icmp .lt 12, 3) := by decide +kernel
theorem dX5_isIn_5 : decode cX5_isIn 5 = .ok (.iload_n 0, 1) := by decide +kernel
theorem dX5_isIn_6 : decode cX5_isIn 6 = .ok (.iload_n 2, 1) := by decide +kernel
theorem dX5_isIn_7 : decode cX5_isIn 7 = .ok (.if_icmp .gt 7, 3) := by decide +kernel
theorem dX5_isIn_10 : decode cX5_isIn 10 = .ok (.iconst 1, 1) := by decide +kernel
theorem dX5_isIn_11 : decode cX5_isIn 11 = .ok (.goto 4, 3) := by decide +kernel
theorem dX5_isIn_14 : decode cX5_isIn 14 = .ok (.iconst 0, 1) := by decide +kernel
theorem dX5_isIn_15 : decode cX5_isIn 15 = .ok (.ireturn, 1) := by decide +kernel
theorem dX5_isFlight_0 : decode cX5_isFlight 0 = .ok (.iload_n 0, 1) := by decide +kernel
theorem dX5_isFlight_1 : decode cX5_isFlight 1 = .ok (.iconst 0, 1) := by decide +kernel
theorem dX5_isFlight_2 : decode cX5_isFlight 2 = .ok (.iconst 5, 1) := by decide +kernel
theorem dX5_isFlight_3 : decode cX5_isFlight 3 = .ok (.invokestatic 54, 3) := by decide +kernel
theorem dX5_isFlight_6 : decode cX5_isFlight 6 = .ok (.ireturn, 1) := by decide +kernel
theorem dX5_isDelay_0 : decode cX5_isDelay 0 = .ok (.iload_n 0, 1) := by decide +kernel
theorem dX5_isDelay_1 : decode cX5_isDelay 1 = .ok (.bipush (-30), 2) := by decide +kernel
theorem dX5_isDelay_3 : decode cX5_isDelay 3 = .ok (.sipush 300, 3) := by decide +kernel
theorem dX5_isDelay_6 : decode cX5_isDelay 6 = .ok (.invokestatic 54, 3) := by decide +kernel
theorem dX5_isDelay_9 : decode cX5_isDelay 9 = .ok (.ireturn, 1) := by decide +kernel
theorem dX5_isVan_0 : decode cX5_isVan 0 = .ok (.iload_n 0, 1) := by decide +kernel
theorem dX5_isVan_1 : decode cX5_isVan 1 = .ok (.iconst 0, 1) := by decide +kernel
theorem dX5_isVan_2 : decode cX5_isVan 2 = .ok (.bipush 7, 2) := by decide +kernel
theorem dX5_isVan_4 : decode cX5_isVan 4 = .ok (.invokestatic 54, 3) := by decide +kernel
theorem dX5_isVan_7 : decode cX5_isVan 7 = .ok (.ireturn, 1) := by decide +kernel
theorem dX5_isSlot_0 : decode cX5_isSlot 0 = .ok (.iload_n 0, 1) := by decide +kernel
theorem dX5_isSlot_1 : decode cX5_isSlot 1 = .ok (.iconst 0, 1) := by decide +kernel
theorem dX5_isSlot_2 : decode cX5_isSlot 2 = .ok (.iconst 1, 1) := by decide +kernel
theorem dX5_isSlot_3 : decode cX5_isSlot 3 = .ok (.invokestatic 54, 3) := by decide +kernel
theorem dX5_isSlot_6 : decode cX5_isSlot 6 = .ok (.ireturn, 1) := by decide +kernel
theorem dX5_isRider_0 : decode cX5_isRider 0 = .ok (.iload_n 1, 1) := by decide +kernel
theorem dX5_isRider_1 : decode cX5_isRider 1 = .ok (.iconst 0, 1) := by decide +kernel
theorem dX5_isRider_2 : decode cX5_isRider 2 = .ok (.aload_n 0, 1) := by decide +kernel
theorem dX5_isRider_3 : decode cX5_isRider 3 = .ok (.getfield 10, 3) := by decide +kernel
theorem dX5_isRider_6 : decode cX5_isRider 6 = .ok (.getfield 105, 3) := by decide +kernel
theorem dX5_isRider_9 : decode cX5_isRider 9 = .ok (.iconst 1, 1) := by decide +kernel
theorem dX5_isRider_10 : decode cX5_isRider 10 = .ok (.isub, 1) := by decide +kernel
theorem dX5_isRider_11 : decode cX5_isRider 11 = .ok (.invokestatic 54, 3) := by decide +kernel
theorem dX5_isRider_14 : decode cX5_isRider 14 = .ok (.ireturn, 1) := by decide +kernel
theorem dX5_minuteAtDoor_0 : decode cX5_minuteAtDoor 0 = .ok (.aload_n 0, 1) := by decide +kernel
theorem dX5_minuteAtDoor_1 : decode cX5_minuteAtDoor 1 = .ok (.getfield 19, 3) := by decide +kernel
theorem dX5_minuteAtDoor_4 : decode cX5_minuteAtDoor 4 = .ok (.getfield 139, 3) := by decide +kernel
theorem dX5_minuteAtDoor_7 : decode cX5_minuteAtDoor 7 = .ok (.iload_n 1, 1) := by decide +kernel
theorem dX5_minuteAtDoor_8 : decode cX5_minuteAtDoor 8 = .ok (.iaload, 1) := by decide +kernel
theorem dX5_minuteAtDoor_9 : decode cX5_minuteAtDoor 9 = .ok (.istore_n 2, 1) := by decide +kernel
theorem dX5_minuteAtDoor_10 : decode cX5_minuteAtDoor 10 = .ok (.iload_n 2, 1) := by decide +kernel
theorem dX5_minuteAtDoor_11 : decode cX5_minuteAtDoor 11 = .ok (.invokestatic 92, 3) := by decide +kernel
theorem dX5_minuteAtDoor_14 : decode cX5_minuteAtDoor 14 = .ok (.ifCond .ne 6, 3) := by decide +kernel
theorem dX5_minuteAtDoor_17 : decode cX5_minuteAtDoor 17 = .ok (.bipush (-106), 2) := by decide +kernel
theorem dX5_minuteAtDoor_19 : decode cX5_minuteAtDoor 19 = .ok (.ireturn, 1) := by decide +kernel
theorem dX5_minuteAtDoor_20 : decode cX5_minuteAtDoor 20 = .ok (.aload_n 0, 1) := by decide +kernel
theorem dX5_minuteAtDoor_21 : decode cX5_minuteAtDoor 21 = .ok (.getfield 26, 3) := by decide +kernel
theorem dX5_minuteAtDoor_24 : decode cX5_minuteAtDoor 24 = .ok (.aload_n 0, 1) := by decide +kernel
theorem dX5_minuteAtDoor_25 : decode cX5_minuteAtDoor 25 = .ok (.getfield 10, 3) := by decide +kernel
theorem dX5_minuteAtDoor_28 : decode cX5_minuteAtDoor 28 = .ok (.aload_n 0, 1) := by decide +kernel
theorem dX5_minuteAtDoor_29 : decode cX5_minuteAtDoor 29 = .ok (.getfield 19, 3) := by decide +kernel
theorem dX5_minuteAtDoor_32 : decode cX5_minuteAtDoor 32 = .ok (.iload_n 2, 1) := by decide +kernel
theorem dX5_minuteAtDoor_33 : decode cX5_minuteAtDoor 33 = .ok (.invokevirtual 163, 3) := by decide +kernel
theorem dX5_minuteAtDoor_36 : decode cX5_minuteAtDoor 36 = .ok (.aload_n 0, 1) := by decide +kernel
theorem dX5_minuteAtDoor_37 : decode cX5_minuteAtDoor 37 = .ok (.getfield 26, 3) := by decide +kernel
theorem dX5_minuteAtDoor_40 : decode cX5_minuteAtDoor 40 = .ok (.aload_n 0, 1) := by decide +kernel
theorem dX5_minuteAtDoor_41 : decode cX5_minuteAtDoor 41 = .ok (.getfield 10, 3) := by decide +kernel
theorem dX5_minuteAtDoor_44 : decode cX5_minuteAtDoor 44 = .ok (.iload_n 1, 1) := by decide +kernel
theorem dX5_minuteAtDoor_45 : decode cX5_minuteAtDoor 45 = .ok (.invokevirtual 254, 3) := by decide +kernel
theorem dX5_minuteAtDoor_48 : decode cX5_minuteAtDoor 48 = .ok (.invokevirtual 257, 3) := by decide +kernel
theorem dX5_minuteAtDoor_51 : decode cX5_minuteAtDoor 51 = .ok (.ireturn, 1) := by decide +kernel
theorem dX5_allFares_0 : decode cX5_allFares 0 = .ok (.iconst 0, 1) := by decide +kernel
theorem dX5_allFares_1 : decode cX5_allFares 1 = .ok (.istore_n 1, 1) := by decide +kernel
theorem dX5_allFares_2 : decode cX5_allFares 2 = .ok (.iconst 0, 1) := by decide +kernel
theorem dX5_allFares_3 : decode cX5_allFares 3 = .ok (.istore_n 2, 1) := by decide +kernel
theorem dX5_allFares_4 : decode cX5_allFares 4 = .ok (.iload_n 2, 1) := by decide +kernel
theorem dX5_allFares_5 : decode cX5_allFares 5 = .ok (.aload_n 0, 1) := by decide +kernel
theorem dX5_allFares_6 : decode cX5_allFares 6 = .ok (.getfield 10, 3) := by decide +kernel
theorem dX5_allFares_9 : decode cX5_allFares 9 = .ok (.getfield 105, 3) := by decide +kernel
theorem dX5_allFares_12 : decode cX5_allFares 12 = .ok (.if_icmp .ge 24, 3) := by decide +kernel
theorem dX5_allFares_15 : decode cX5_allFares 15 = .ok (.iload_n 1, 1) := by decide +kernel
theorem dX5_allFares_16 : decode cX5_allFares 16 = .ok (.aload_n 0, 1) := by decide +kernel
theorem dX5_allFares_17 : decode cX5_allFares 17 = .ok (.getfield 19, 3) := by decide +kernel
theorem dX5_allFares_20 : decode cX5_allFares 20 = .ok (.aload_n 0, 1) := by decide +kernel
theorem dX5_allFares_21 : decode cX5_allFares 21 = .ok (.getfield 10, 3) := by decide +kernel
theorem dX5_allFares_24 : decode cX5_allFares 24 = .ok (.iload_n 2, 1) := by decide +kernel
theorem dX5_allFares_25 : decode cX5_allFares 25 = .ok (.invokevirtual 128, 3) := by decide +kernel
theorem dX5_allFares_28 : decode cX5_allFares 28 = .ok (.iadd, 1) := by decide +kernel
theorem dX5_allFares_29 : decode cX5_allFares 29 = .ok (.istore_n 1, 1) := by decide +kernel
theorem dX5_allFares_30 : decode cX5_allFares 30 = .ok (.iinc 2 1, 3) := by decide +kernel
theorem dX5_allFares_33 : decode cX5_allFares 33 = .ok (.goto (-29), 3) := by decide +kernel
theorem dX5_allFares_36 : decode cX5_allFares 36 = .ok (.iload_n 1, 1) := by decide +kernel
theorem dX5_allFares_37 : decode cX5_allFares 37 = .ok (.ireturn, 1) := by decide +kernel
theorem dX5_allStops_0 : decode cX5_allStops 0 = .ok (.iconst 0, 1) := by decide +kernel
theorem dX5_allStops_1 : decode cX5_allStops 1 = .ok (.istore_n 1, 1) := by decide +kernel
theorem dX5_allStops_2 : decode cX5_allStops 2 = .ok (.iconst 0, 1) := by decide +kernel
theorem dX5_allStops_3 : decode cX5_allStops 3 = .ok (.istore_n 2, 1) := by decide +kernel
theorem dX5_allStops_4 : decode cX5_allStops 4 = .ok (.iload_n 2, 1) := by decide +kernel
theorem dX5_allStops_5 : decode cX5_allStops 5 = .ok (.bipush 8, 2) := by decide +kernel
theorem dX5_allStops_7 : decode cX5_allStops 7 = .ok (.if_icmp .ge 35, 3) := by decide +kernel
theorem dX5_allStops_10 : decode cX5_allStops 10 = .ok (.aload_n 0, 1) := by decide +kernel
theorem dX5_allStops_11 : decode cX5_allStops 11 = .ok (.getfield 26, 3) := by decide +kernel
theorem dX5_allStops_14 : decode cX5_allStops 14 = .ok (.aload_n 0, 1) := by decide +kernel
theorem dX5_allStops_15 : decode cX5_allStops 15 = .ok (.getfield 10, 3) := by decide +kernel
theorem dX5_allStops_18 : decode cX5_allStops 18 = .ok (.aload_n 0, 1) := by decide +kernel
theorem dX5_allStops_19 : decode cX5_allStops 19 = .ok (.getfield 19, 3) := by decide +kernel
theorem dX5_allStops_22 : decode cX5_allStops 22 = .ok (.iload_n 2, 1) := by decide +kernel
theorem dX5_allStops_23 : decode cX5_allStops 23 = .ok (.invokevirtual 163, 3) := by decide +kernel
theorem dX5_allStops_26 : decode cX5_allStops 26 = .ok (.iload_n 1, 1) := by decide +kernel
theorem dX5_allStops_27 : decode cX5_allStops 27 = .ok (.aload_n 0, 1) := by decide +kernel
theorem dX5_allStops_28 : decode cX5_allStops 28 = .ok (.getfield 26, 3) := by decide +kernel
theorem dX5_allStops_31 : decode cX5_allStops 31 = .ok (.getfield 176, 3) := by decide +kernel
theorem dX5_allStops_34 : decode cX5_allStops 34 = .ok (.iadd, 1) := by decide +kernel
theorem dX5_allStops_35 : decode cX5_allStops 35 = .ok (.istore_n 1, 1) := by decide +kernel
theorem dX5_allStops_36 : decode cX5_allStops 36 = .ok (.iinc 2 1, 3) := by decide +kernel
theorem dX5_allStops_39 : decode cX5_allStops 39 = .ok (.goto (-35), 3) := by decide +kernel
theorem dX5_allStops_42 : decode cX5_allStops 42 = .ok (.iload_n 1, 1) := by decide +kernel
theorem dX5_allStops_43 : decode cX5_allStops 43 = .ok (.ireturn, 1) := by decide +kernel
theorem dX5_lastAtDoor_0 : decode cX5_lastAtDoor 0 = .ok (.bipush (-106), 2) := by decide +kernel
theorem dX5_lastAtDoor_2 : decode cX5_lastAtDoor 2 = .ok (.istore_n 3, 1) := by decide +kernel
theorem dX5_lastAtDoor_3 : decode cX5_lastAtDoor 3 = .ok (.iconst 0, 1) := by decide +kernel
theorem dX5_lastAtDoor_4 : decode cX5_lastAtDoor 4 = .ok (.istore 4, 2) := by decide +kernel
theorem dX5_lastAtDoor_6 : decode cX5_lastAtDoor 6 = .ok (.iload 4, 2) := by decide +kernel
theorem dX5_lastAtDoor_8 : decode cX5_lastAtDoor 8 = .ok (.bipush 8, 2) := by decide +kernel
theorem dX5_lastAtDoor_10 : decode cX5_lastAtDoor 10 = .ok (.if_icmp .ge 42, 3) := by decide +kernel
theorem dX5_lastAtDoor_13 : decode cX5_lastAtDoor 13 = .ok (.aload_n 0, 1) := by decide +kernel
theorem dX5_lastAtDoor_14 : decode cX5_lastAtDoor 14 = .ok (.getfield 26, 3) := by decide +kernel
theorem dX5_lastAtDoor_17 : decode cX5_lastAtDoor 17 = .ok (.aload_n 1, 1) := by decide +kernel
theorem dX5_lastAtDoor_18 : decode cX5_lastAtDoor 18 = .ok (.aload_n 2, 1) := by decide +kernel
theorem dX5_lastAtDoor_19 : decode cX5_lastAtDoor 19 = .ok (.iload 4, 2) := by decide +kernel
theorem dX5_lastAtDoor_21 : decode cX5_lastAtDoor 21 = .ok (.invokevirtual 163, 3) := by decide +kernel
theorem dX5_lastAtDoor_24 : decode cX5_lastAtDoor 24 = .ok (.aload_n 0, 1) := by decide +kernel
theorem dX5_lastAtDoor_25 : decode cX5_lastAtDoor 25 = .ok (.getfield 26, 3) := by decide +kernel
theorem dX5_lastAtDoor_28 : decode cX5_lastAtDoor 28 = .ok (.getfield 176, 3) := by decide +kernel
theorem dX5_lastAtDoor_31 : decode cX5_lastAtDoor 31 = .ok (.ifCond .le 15, 3) := by decide +kernel
theorem dX5_lastAtDoor_34 : decode cX5_lastAtDoor 34 = .ok (.iload_n 3, 1) := by decide +kernel
theorem dX5_lastAtDoor_35 : decode cX5_lastAtDoor 35 = .ok (.aload_n 0, 1) := by decide +kernel
theorem dX5_lastAtDoor_36 : decode cX5_lastAtDoor 36 = .ok (.getfield 26, 3) := by decide +kernel
theorem dX5_lastAtDoor_39 : decode cX5_lastAtDoor 39 = .ok (.invokevirtual 179, 3) := by decide +kernel
theorem dX5_lastAtDoor_42 : decode cX5_lastAtDoor 42 = .ok (.invokestatic 260, 3) := by decide +kernel
theorem dX5_lastAtDoor_45 : decode cX5_lastAtDoor 45 = .ok (.istore_n 3, 1) := by decide +kernel
theorem dX5_lastAtDoor_46 : decode cX5_lastAtDoor 46 = .ok (.iinc 4 1, 3) := by decide +kernel
theorem dX5_lastAtDoor_49 : decode cX5_lastAtDoor 49 = .ok (.goto (-43), 3) := by decide +kernel
theorem dX5_lastAtDoor_52 : decode cX5_lastAtDoor 52 = .ok (.iload_n 3, 1) := by decide +kernel
theorem dX5_lastAtDoor_53 : decode cX5_lastAtDoor 53 = .ok (.ireturn, 1) := by decide +kernel
theorem dX6_init_0 : decode cX6_init 0 = .ok (.aload_n 0, 1) := by decide +kernel
theorem dX6_init_1 : decode cX6_init 1 = .ok (.invokespecial 1, 3) := by decide +kernel
theorem dX6_init_4 : decode cX6_init 4 = .ok (.aload_n 0, 1) := by decide +kernel
theorem dX6_init_5 : decode cX6_init 5 = .ok (.sipush 130, 3) := by decide +kernel
theorem dX6_init_8 : decode cX6_init 8 = .ok (.newarray .int, 2) := by decide +kernel
theorem dX6_init_10 : decode cX6_init 10 = .ok (.putfield 7, 3) := by decide +kernel
theorem dX6_init_13 : decode cX6_init 13 = .ok (.aload_n 0, 1) := by decide +kernel
theorem dX6_init_14 : decode cX6_init 14 = .ok (.sipush 780, 3) := by decide +kernel
theorem dX6_init_17 : decode cX6_init 17 = .ok (.newarray .int, 2) := by decide +kernel
theorem dX6_init_19 : decode cX6_init 19 = .ok (.putfield 13, 3) := by decide +kernel
theorem dX6_init_22 : decode cX6_init 22 = .ok (.aload_n 0, 1) := by decide +kernel
theorem dX6_init_23 : decode cX6_init 23 = .ok (.sipush 260, 3) := by decide +kernel
theorem dX6_init_26 : decode cX6_init 26 = .ok (.newarray .int, 2) := by decide +kernel
theorem dX6_init_28 : decode cX6_init 28 = .ok (.putfield 16, 3) := by decide +kernel
theorem dX6_init_31 : decode cX6_init 31 = .ok (.aload_n 0, 1) := by decide +kernel
theorem dX6_init_32 : decode cX6_init 32 = .ok (.iconst 2, 1) := by decide +kernel
theorem dX6_init_33 : decode cX6_init 33 = .ok (.newarray .int, 2) := by decide +kernel
theorem dX6_init_35 : decode cX6_init 35 = .ok (.putfield 19, 3) := by decide +kernel
theorem dX6_init_38 : decode cX6_init 38 = .ok (.aload_n 0, 1) := by decide +kernel
theorem dX6_init_39 : decode cX6_init 39 = .ok (.bipush 60, 2) := by decide +kernel
theorem dX6_init_41 : decode cX6_init 41 = .ok (.newarray .int, 2) := by decide +kernel
theorem dX6_init_43 : decode cX6_init 43 = .ok (.putfield 22, 3) := by decide +kernel
theorem dX6_init_46 : decode cX6_init 46 = .ok (.aload_n 0, 1) := by decide +kernel
theorem dX6_init_47 : decode cX6_init 47 = .ok (.iconst 4, 1) := by decide +kernel
theorem dX6_init_48 : decode cX6_init 48 = .ok (.newarray .int, 2) := by decide +kernel
theorem dX6_init_50 : decode cX6_init 50 = .ok (.putfield 25, 3) := by decide +kernel
theorem dX6_init_53 : decode cX6_init 53 = .ok (.aload_n 0, 1) := by decide +kernel
theorem dX6_init_54 : decode cX6_init 54 = .ok (.bipush 24, 2) := by decide +kernel
theorem dX6_init_56 : decode cX6_init 56 = .ok (.newarray .int, 2) := by decide +kernel
theorem dX6_init_58 : decode cX6_init 58 = .ok (.putfield 28, 3) := by decide +kernel
theorem dX6_init_61 : decode cX6_init 61 = .ok (.aload_n 0, 1) := by decide +kernel
theorem dX6_init_62 : decode cX6_init 62 = .ok (.bipush 24, 2) := by decide +kernel
theorem dX6_init_64 : decode cX6_init 64 = .ok (.newarray .int, 2) := by decide +kernel
theorem dX6_init_66 : decode cX6_init 66 = .ok (.putfield 31, 3) := by decide +kernel
theorem dX6_init_69 : decode cX6_init 69 = .ok (.aload_n 0, 1) := by decide +kernel
theorem dX6_init_70 : decode cX6_init 70 = .ok (.bipush 8, 2) := by decide +kernel
theorem dX6_init_72 : decode cX6_init 72 = .ok (.newarray .int, 2) := by decide +kernel
theorem dX6_init_74 : decode cX6_init 74 = .ok (.putfield 34, 3) := by decide +kernel
theorem dX6_init_77 : decode cX6_init 77 = .ok (.aload_n 0, 1) := by decide +kernel
theorem dX6_init_78 : decode cX6_init 78 = .ok (.bipush 8, 2) := by decide +kernel
theorem dX6_init_80 : decode cX6_init 80 = .ok (.newarray .int, 2) := by decide +kernel
theorem dX6_init_82 : decode cX6_init 82 = .ok (.putfield 37, 3) := by decide +kernel
theorem dX6_init_85 : decode cX6_init 85 = .ok (.aload_n 0, 1) := by decide +kernel
theorem dX6_init_86 : decode cX6_init 86 = .ok (.bipush 24, 2) := by decide +kernel
theorem dX6_init_88 : decode cX6_init 88 = .ok (.newarray .int, 2) := by decide +kernel
theorem dX6_init_90 : decode cX6_init 90 = .ok (.putfield 40, 3) := by decide +kernel
theorem dX6_init_93 : decode cX6_init 93 = .ok (.aload_n 0, 1) := by decide +kernel
theorem dX6_init_94 : decode cX6_init 94 = .ok (.bipush 24, 2) := by decide +kernel
theorem dX6_init_96 : decode cX6_init 96 = .ok (.newarray .int, 2) := by decide +kernel
theorem dX6_init_98 : decode cX6_init 98 = .ok (.putfield 43, 3) := by decide +kernel
theorem dX6_init_101 : decode cX6_init 101 = .ok (.aload_n 0, 1) := by decide +kernel
theorem dX6_init_102 : decode cX6_init 102 = .ok (.getfield 7, 3) := by decide +kernel
theorem dX6_init_105 : decode cX6_init 105 = .ok (.iconst 0, 1) := by decide +kernel
theorem dX6_init_106 : decode cX6_init 106 = .ok (.bipush 30, 2) := by decide +kernel
theorem dX6_init_108 : decode cX6_init 108 = .ok (.iastore, 1) := by decide +kernel
theorem dX6_init_109 : decode cX6_init 109 = .ok (.aload_n 0, 1) := by decide +kernel
theorem dX6_init_110 : decode cX6_init 110 = .ok (.getfield 7, 3) := by decide +kernel
theorem dX6_init_113 : decode cX6_init 113 = .ok (.iconst 1, 1) := by decide +kernel
theorem dX6_init_114 : decode cX6_init 114 = .ok (.bipush 60, 2) := by decide +kernel
theorem dX6_init_116 : decode cX6_init 116 = .ok (.iastore, 1) := by decide +kernel
theorem dX6_init_117 : decode cX6_init 117 = .ok (.aload_n 0, 1) := by decide +kernel
theorem dX6_init_118 : decode cX6_init 118 = .ok (.getfield 7, 3) := by decide +kernel
theorem dX6_init_121 : decode cX6_init 121 = .ok (.iconst 2, 1) := by decide +kernel
theorem dX6_init_122 : decode cX6_init 122 = .ok (.iconst 3, 1) := by decide +kernel
theorem dX6_init_123 : decode cX6_init 123 = .ok (.iastore, 1) := by decide +kernel
theorem dX6_init_124 : decode cX6_init 124 = .ok (.aload_n 0, 1) := by decide +kernel
theorem dX6_init_125 : decode cX6_init 125 = .ok (.getfield 7, 3) := by decide +kernel
theorem dX6_init_128 : decode cX6_init 128 = .ok (.iconst 3, 1) := by decide +kernel
theorem dX6_init_129 : decode cX6_init 129 = .ok (.bipush 60, 2) := by decide +kernel
theorem dX6_init_131 : decode cX6_init 131 = .ok (.iastore, 1) := by decide +kernel
theorem dX6_init_132 : decode cX6_init 132 = .ok (.aload_n 0, 1) := by decide +kernel
theorem dX6_init_133 : decode cX6_init 133 = .ok (.getfield 7, 3) := by decide +kernel
theorem dX6_init_136 : decode cX6_init 136 = .ok (.iconst 4, 1) := by decide +kernel
theorem dX6_init_137 : decode cX6_init 137 = .ok (.bipush 6, 2) := by decide +kernel
theorem dX6_init_139 : decode cX6_init 139 = .ok (.iastore, 1) := by decide +kernel
theorem dX6_init_140 : decode cX6_init 140 = .ok (.iconst 0, 1) := by decide +kernel
theorem dX6_init_141 : decode cX6_init 141 = .ok (.istore_n 1, 1) := by decide +kernel
theorem dX6_init_142 : decode cX6_init 142 = .ok (.iload_n 1, 1) := by decide +kernel
theorem dX6_init_143 : decode cX6_init 143 = .ok (.bipush 6, 2) := by decide +kernel
theorem dX6_init_145 : decode cX6_init 145 = .ok (.if_icmp .ge 21, 3) := by decide +kernel
theorem dX6_init_148 : decode cX6_init 148 = .ok (.aload_n 0, 1) := by decide +kernel
theorem dX6_init_149 : decode cX6_init 149 = .ok (.getfield 7, 3) := by decide +kernel
theorem dX6_init_152 : decode cX6_init 152 = .ok (.iconst 5, 1) := by decide +kernel
theorem dX6_init_153 : decode cX6_init 153 = .ok (.iload_n 1, 1) := by decide +kernel
theorem dX6_init_154 : decode cX6_init 154 = .ok (.iadd, 1) := by decide +kernel
theorem dX6_init_155 : decode cX6_init 155 = .ok (.bipush 60, 2) := by decide +kernel
theorem dX6_init_157 : decode cX6_init 157 = .ok (.iload_n 1, 1) := by decide +kernel
theorem dX6_init_158 : decode cX6_init 158 = .ok (.imul, 1) := by decide +kernel
theorem dX6_init_159 : decode cX6_init 159 = .ok (.iastore, 1) := by decide +kernel
theorem dX6_init_160 : decode cX6_init 160 = .ok (.iinc 1 1, 3) := by decide +kernel
theorem dX6_init_163 : decode cX6_init 163 = .ok (.goto (-21), 3) := by decide +kernel
theorem dX6_init_166 : decode cX6_init 166 = .ok (.iconst 0, 1) := by decide +kernel
theorem dX6_init_167 : decode cX6_init 167 = .ok (.istore_n 1, 1) := by decide +kernel
theorem dX6_init_168 : decode cX6_init 168 = .ok (.iload_n 1, 1) := by decide +kernel
theorem dX6_init_169 : decode cX6_init 169 = .ok (.bipush 8, 2) := by decide +kernel
theorem dX6_init_171 : decode cX6_init 171 = .ok (.if_icmp .ge 36, 3) := by decide +kernel
theorem dX6_init_174 : decode cX6_init 174 = .ok (.aload_n 0, 1) := by decide +kernel
theorem dX6_init_175 : decode cX6_init 175 = .ok (.getfield 7, 3) := by decide +kernel
theorem dX6_init_178 : decode cX6_init 178 = .ok (.bipush 17, 2) := by decide +kernel
theorem dX6_init_180 : decode cX6_init 180 = .ok (.iload_n 1, 1) := by decide +kernel
theorem dX6_init_181 : decode cX6_init 181 = .ok (.iadd, 1) := by decide +kernel
theorem dX6_init_182 : decode cX6_init 182 = .ok (.bipush 60, 2) := by decide +kernel
theorem dX6_init_184 : decode cX6_init 184 = .ok (.iload_n 1, 1) := by decide +kernel
theorem dX6_init_185 : decode cX6_init 185 = .ok (.imul, 1) := by decide +kernel
theorem dX6_init_186 : decode cX6_init 186 = .ok (.bipush 60, 2) := by decide +kernel
theorem dX6_init_188 : decode cX6_init 188 = .ok (.iadd, 1) := by decide +kernel
theorem dX6_init_189 : decode cX6_init 189 = .ok (.iastore, 1) := by decide +kernel
theorem dX6_init_190 : decode cX6_init 190 = .ok (.aload_n 0, 1) := by decide +kernel
theorem dX6_init_191 : decode cX6_init 191 = .ok (.getfield 7, 3) := by decide +kernel
theorem dX6_init_194 : decode cX6_init 194 = .ok (.bipush 25, 2) := by decide +kernel
theorem dX6_init_196 : decode cX6_init 196 = .ok (.iload_n 1, 1) := by decide +kernel
theorem dX6_init_197 : decode cX6_init 197 = .ok (.iadd, 1) := by decide +kernel
theorem dX6_init_198 : decode cX6_init 198 = .ok (.bipush 6, 2) := by decide +kernel
theorem dX6_init_200 : decode cX6_init 200 = .ok (.iastore, 1) := by decide +kernel
theorem dX6_init_201 : decode cX6_init 201 = .ok (.iinc 1 1, 3) := by decide +kernel
theorem dX6_init_204 : decode cX6_init 204 = .ok (.goto (-36), 3) := by decide +kernel
theorem dX6_init_207 : decode cX6_init 207 = .ok (.return_, 1) := by decide +kernel
theorem dX6_within_0 : decode cX6_within 0 = .ok (.iload_n 0, 1) := by decide +kernel
theorem dX6_within_1 : decode cX6_within 1 = .ok (.iload_n 1, 1) := by decide +kernel
theorem dX6_within_2 : decode cX6_within 2 = .ok (.if_icmp .lt 12, 3) := by decide +kernel
theorem dX6_within_5 : decode cX6_within 5 = .ok (.iload_n 0, 1) := by decide +kernel
theorem dX6_within_6 : decode cX6_within 6 = .ok (.iload_n 2, 1) := by decide +kernel
theorem dX6_within_7 : decode cX6_within 7 = .ok (.if_icmp .gt 7, 3) := by decide +kernel
theorem dX6_within_10 : decode cX6_within 10 = .ok (.iconst 1, 1) := by decide +kernel
theorem dX6_within_11 : decode cX6_within 11 = .ok (.goto 4, 3) := by decide +kernel
theorem dX6_within_14 : decode cX6_within 14 = .ok (.iconst 0, 1) := by decide +kernel
theorem dX6_within_15 : decode cX6_within 15 = .ok (.ireturn, 1) := by decide +kernel
theorem dX6_isFlight_0 : decode cX6_isFlight 0 = .ok (.iload_n 0, 1) := by decide +kernel
theorem dX6_isFlight_1 : decode cX6_isFlight 1 = .ok (.iconst 0, 1) := by decide +kernel
theorem dX6_isFlight_2 : decode cX6_isFlight 2 = .ok (.iconst 5, 1) := by decide +kernel
theorem dX6_isFlight_3 : decode cX6_isFlight 3 = .ok (.invokestatic 46, 3) := by decide +kernel
theorem dX6_isFlight_6 : decode cX6_isFlight 6 = .ok (.ireturn, 1) := by decide +kernel
theorem dX6_isVan_0 : decode cX6_isVan 0 = .ok (.iload_n 0, 1) := by decide +kernel
theorem dX6_isVan_1 : decode cX6_isVan 1 = .ok (.iconst 0, 1) := by decide +kernel
theorem dX6_isVan_2 : decode cX6_isVan 2 = .ok (.bipush 7, 2) := by decide +kernel
theorem dX6_isVan_4 : decode cX6_isVan 4 = .ok (.invokestatic 46, 3) := by decide +kernel
theorem dX6_isVan_7 : decode cX6_isVan 7 = .ok (.ireturn, 1) := by decide +kernel
theorem dX6_isRider_0 : decode cX6_isRider 0 = .ok (.iload_n 1, 1) := by decide +kernel
theorem dX6_isRider_1 : decode cX6_isRider 1 = .ok (.iconst 0, 1) := by decide +kernel
theorem dX6_isRider_2 : decode cX6_isRider 2 = .ok (.aload_n 0, 1) := by decide +kernel
theorem dX6_isRider_3 : decode cX6_isRider 3 = .ok (.getfield 7, 3) := by decide +kernel
theorem dX6_isRider_6 : decode cX6_isRider 6 = .ok (.bipush 33, 2) := by decide +kernel
theorem dX6_isRider_8 : decode cX6_isRider 8 = .ok (.iaload, 1) := by decide +kernel
theorem dX6_isRider_9 : decode cX6_isRider 9 = .ok (.iconst 1, 1) := by decide +kernel
theorem dX6_isRider_10 : decode cX6_isRider 10 = .ok (.isub, 1) := by decide +kernel
theorem dX6_isRider_11 : decode cX6_isRider 11 = .ok (.invokestatic 46, 3) := by decide +kernel
theorem dX6_isRider_14 : decode cX6_isRider 14 = .ok (.ireturn, 1) := by decide +kernel
theorem dX6_of_0 : decode cX6_of 0 = .ok (.aload_n 0, 1) := by decide +kernel
theorem dX6_of_1 : decode cX6_of 1 = .ok (.getfield 7, 3) := by decide +kernel
theorem dX6_of_4 : decode cX6_of 4 = .ok (.bipush 34, 2) := by decide +kernel
theorem dX6_of_6 : decode cX6_of 6 = .ok (.iconst 4, 1) := by decide +kernel
theorem dX6_of_7 : decode cX6_of 7 = .ok (.iload_n 1, 1) := by decide +kernel
theorem dX6_of_8 : decode cX6_of 8 = .ok (.imul, 1) := by decide +kernel
theorem dX6_of_9 : decode cX6_of 9 = .ok (.iadd, 1) := by decide +kernel
theorem dX6_of_10 : decode cX6_of 10 = .ok (.iload_n 2, 1) := by decide +kernel
theorem dX6_of_11 : decode cX6_of 11 = .ok (.iadd, 1) := by decide +kernel
theorem dX6_of_12 : decode cX6_of 12 = .ok (.iaload, 1) := by decide +kernel
theorem dX6_of_13 : decode cX6_of 13 = .ok (.ireturn, 1) := by decide +kernel
theorem dX6_record_0 : decode cX6_record 0 = .ok (.aload_n 0, 1) := by decide +kernel
theorem dX6_record_1 : decode cX6_record 1 = .ok (.getfield 50, 3) := by decide +kernel
theorem dX6_record_4 : decode cX6_record 4 = .ok (.bipush 6, 2) := by decide +kernel
theorem dX6_record_6 : decode cX6_record 6 = .ok (.if_icmp .ne 44, 3) := by decide +kernel
theorem dX6_record_9 : decode cX6_record 9 = .ok (.iconst 0, 1) := by decide +kernel
theorem dX6_record_10 : decode cX6_record 10 = .ok (.istore_n 1, 1) := by decide +kernel
theorem dX6_record_11 : decode cX6_record 11 = .ok (.iload_n 1, 1) := by decide +kernel
theorem dX6_record_12 : decode cX6_record 12 = .ok (.sipush 650, 3) := by decide +kernel
theorem dX6_record_15 : decode cX6_record 15 = .ok (.if_icmp .ge 25, 3) := by decide +kernel
theorem dX6_record_18 : decode cX6_record 18 = .ok (.aload_n 0, 1) := by decide +kernel
theorem dX6_record_19 : decode cX6_record 19 = .ok (.getfield 13, 3) := by decide +kernel
theorem dX6_record_22 : decode cX6_record 22 = .ok (.iload_n 1, 1) := by decide +kernel
theorem dX6_record_23 : decode cX6_record 23 = .ok (.aload_n 0, 1) := by decide +kernel
theorem dX6_record_24 : decode cX6_record 24 = .ok (.getfield 13, 3) := by decide +kernel
theorem dX6_record_27 : decode cX6_record 27 = .ok (.iload_n 1, 1) := by decide +kernel
theorem dX6_record_28 : decode cX6_record 28 = .ok (.sipush 130, 3) := by decide +kernel
theorem dX6_record_31 : decode cX6_record 31 = .ok (.iadd, 1) := by decide +kernel
theorem dX6_record_32 : decode cX6_record 32 = .ok (.iaload, 1) := by decide +kernel
theorem dX6_record_33 : decode cX6_record 33 = .ok (.iastore, 1) := by decide +kernel
theorem dX6_record_34 : decode cX6_record 34 = .ok (.iinc 1 1, 3) := by decide +kernel
theorem dX6_record_37 : decode cX6_record 37 = .ok (.goto (-26), 3) := by decide +kernel
theorem dX6_record_40 : decode cX6_record 40 = .ok (.aload_n 0, 1) := by decide +kernel
theorem dX6_record_41 : decode cX6_record 41 = .ok (.dup, 1) := by decide +kernel
theorem dX6_record_42 : decode cX6_record 42 = .ok (.getfield 50, 3) := by decide +kernel
theorem dX6_record_45 : decode cX6_record 45 = .ok (.iconst 1, 1) := by decide +kernel
theorem dX6_record_46 : decode cX6_record 46 = .ok (.isub, 1) := by decide +kernel
theorem dX6_record_47 : decode cX6_record 47 = .ok (.putfield 50, 3) := by decide +kernel
theorem dX6_record_50 : decode cX6_record 50 = .ok (.iconst 0, 1) := by decide +kernel
theorem dX6_record_51 : decode cX6_record 51 = .ok (.istore_n 1, 1) := by decide +kernel
theorem dX6_record_52 : decode cX6_record 52 = .ok (.iload_n 1, 1) := by decide +kernel
theorem dX6_record_53 : decode cX6_record 53 = .ok (.sipush 130, 3) := by decide +kernel
theorem dX6_record_56 : decode cX6_record 56 = .ok (.if_icmp .ge 30, 3) := by decide +kernel
theorem dX6_record_59 : decode cX6_record 59 = .ok (.aload_n 0, 1) := by decide +kernel
theorem dX6_record_60 : decode cX6_record 60 = .ok (.getfield 13, 3) := by decide +kernel
theorem dX6_record_63 : decode cX6_record 63 = .ok (.aload_n 0, 1) := by decide +kernel
theorem dX6_record_64 : decode cX6_record 64 = .ok (.getfield 50, 3) := by decide +kernel
theorem dX6_record_67 : decode cX6_record 67 = .ok (.sipush 130, 3) := by decide +kernel
theorem dX6_record_70 : decode cX6_record 70 = .ok (.imul, 1) := by decide +kernel
theorem dX6_record_71 : decode cX6_record 71 = .ok (.iload_n 1, 1) := by decide +kernel
theorem dX6_record_72 : decode cX6_record 72 = .ok (.iadd, 1) := by decide +kernel
theorem dX6_record_73 : decode cX6_record 73 = .ok (.aload_n 0, 1) := by decide +kernel
theorem dX6_record_74 : decode cX6_record 74 = .ok (.getfield 7, 3) := by decide +kernel
theorem dX6_record_77 : decode cX6_record 77 = .ok (.iload_n 1, 1) := by decide +kernel
theorem dX6_record_78 : decode cX6_record 78 = .ok (.iaload, 1) := by decide +kernel
theorem dX6_record_79 : decode cX6_record 79 = .ok (.iastore, 1) := by decide +kernel
theorem dX6_record_80 : decode cX6_record 80 = .ok (.iinc 1 1, 3) := by decide +kernel
theorem dX6_record_83 : decode cX6_record 83 = .ok (.goto (-31), 3) := by decide +kernel
theorem dX6_record_86 : decode cX6_record 86 = .ok (.aload_n 0, 1) := by decide +kernel
theorem dX6_record_87 : decode cX6_record 87 = .ok (.dup, 1) := by decide +kernel
theorem dX6_record_88 : decode cX6_record 88 = .ok (.getfield 50, 3) := by decide +kernel
theorem dX6_record_91 : decode cX6_record 91 = .ok (.iconst 1, 1) := by decide +kernel
theorem dX6_record_92 : decode cX6_record 92 = .ok (.iadd, 1) := by decide +kernel
theorem dX6_record_93 : decode cX6_record 93 = .ok (.putfield 50, 3) := by decide +kernel
theorem dX6_record_96 : decode cX6_record 96 = .ok (.return_, 1) := by decide +kernel
theorem dX6_undo_0 : decode cX6_undo 0 = .ok (.aload_n 0, 1) := by decide +kernel
theorem dX6_undo_1 : decode cX6_undo 1 = .ok (.getfield 50, 3) := by decide +kernel
theorem dX6_undo_4 : decode cX6_undo 4 = .ok (.ifCond .ne 6, 3) := by decide +kernel
theorem dX6_undo_7 : decode cX6_undo 7 = .ok (.bipush (-105), 2) := by decide +kernel
theorem dX6_undo_9 : decode cX6_undo 9 = .ok (.ireturn, 1) := by decide +kernel
