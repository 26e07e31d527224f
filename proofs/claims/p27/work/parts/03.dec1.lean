theorem dX2_othersAtStop_29 : decode cX2_othersAtStop 29 = .ok (.iload_n 2, 1) := by decide +kernel
theorem dX2_othersAtStop_30 : decode cX2_othersAtStop 30 = .ok (.if_icmp .eq 18, 3) := by decide +kernel
theorem dX2_othersAtStop_33 : decode cX2_othersAtStop 33 = .ok (.aload_n 0, 1) := by decide +kernel
theorem dX2_othersAtStop_34 : decode cX2_othersAtStop 34 = .ok (.aload_n 1, 1) := by decide +kernel
theorem dX2_othersAtStop_35 : decode cX2_othersAtStop 35 = .ok (.iload_n 2, 1) := by decide +kernel
theorem dX2_othersAtStop_36 : decode cX2_othersAtStop 36 = .ok (.iload 4, 2) := by decide +kernel
theorem dX2_othersAtStop_38 : decode cX2_othersAtStop 38 = .ok (.iconst 1, 1) := by decide +kernel
theorem dX2_othersAtStop_39 : decode cX2_othersAtStop 39 = .ok (.invokevirtual 96, 3) := by decide +kernel
theorem dX2_othersAtStop_42 : decode cX2_othersAtStop 42 = .ok (.ifCond .eq 6, 3) := by decide +kernel
theorem dX2_othersAtStop_45 : decode cX2_othersAtStop 45 = .ok (.iinc 3 1, 3) := by decide +kernel
theorem dX2_othersAtStop_48 : decode cX2_othersAtStop 48 = .ok (.iinc 4 1, 3) := by decide +kernel
theorem dX2_othersAtStop_51 : decode cX2_othersAtStop 51 = .ok (.goto (-33), 3) := by decide +kernel
theorem dX2_othersAtStop_54 : decode cX2_othersAtStop 54 = .ok (.iload_n 3, 1) := by decide +kernel
theorem dX2_othersAtStop_55 : decode cX2_othersAtStop 55 = .ok (.ireturn, 1) := by decide +kernel
theorem dX2_faresOf_0 : decode cX2_faresOf 0 = .ok (.iconst 0, 1) := by decide +kernel
theorem dX2_faresOf_1 : decode cX2_faresOf 1 = .ok (.istore_n 3, 1) := by decide +kernel
theorem dX2_faresOf_2 : decode cX2_faresOf 2 = .ok (.iconst 0, 1) := by decide +kernel
theorem dX2_faresOf_3 : decode cX2_faresOf 3 = .ok (.istore 4, 2) := by decide +kernel
theorem dX2_faresOf_5 : decode cX2_faresOf 5 = .ok (.iload 4, 2) := by decide +kernel
theorem dX2_faresOf_7 : decode cX2_faresOf 7 = .ok (.aload_n 1, 1) := by decide +kernel
theorem dX2_faresOf_8 : decode cX2_faresOf 8 = .ok (.getfield 34, 3) := by decide +kernel
theorem dX2_faresOf_11 : decode cX2_faresOf 11 = .ok (.if_icmp .ge 30, 3) := by decide +kernel
theorem dX2_faresOf_14 : decode cX2_faresOf 14 = .ok (.aload_n 0, 1) := by decide +kernel
theorem dX2_faresOf_15 : decode cX2_faresOf 15 = .ok (.getfield 18, 3) := by decide +kernel
theorem dX2_faresOf_18 : decode cX2_faresOf 18 = .ok (.iload 4, 2) := by decide +kernel
theorem dX2_faresOf_20 : decode cX2_faresOf 20 = .ok (.iaload, 1) := by decide +kernel
theorem dX2_faresOf_21 : decode cX2_faresOf 21 = .ok (.iload_n 2, 1) := by decide +kernel
theorem dX2_faresOf_22 : decode cX2_faresOf 22 = .ok (.if_icmp .ne 13, 3) := by decide +kernel
theorem dX2_faresOf_25 : decode cX2_faresOf 25 = .ok (.iload_n 3, 1) := by decide +kernel
theorem dX2_faresOf_26 : decode cX2_faresOf 26 = .ok (.aload_n 0, 1) := by decide +kernel
theorem dX2_faresOf_27 : decode cX2_faresOf 27 = .ok (.aload_n 1, 1) := by decide +kernel
theorem dX2_faresOf_28 : decode cX2_faresOf 28 = .ok (.iload 4, 2) := by decide +kernel
theorem dX2_faresOf_30 : decode cX2_faresOf 30 = .ok (.invokevirtual 100, 3) := by decide +kernel
theorem dX2_faresOf_33 : decode cX2_faresOf 33 = .ok (.iadd, 1) := by decide +kernel
theorem dX2_faresOf_34 : decode cX2_faresOf 34 = .ok (.istore_n 3, 1) := by decide +kernel
theorem dX2_faresOf_35 : decode cX2_faresOf 35 = .ok (.iinc 4 1, 3) := by decide +kernel
theorem dX2_faresOf_38 : decode cX2_faresOf 38 = .ok (.goto (-33), 3) := by decide +kernel
theorem dX2_faresOf_41 : decode cX2_faresOf 41 = .ok (.iload_n 3, 1) := by decide +kernel
theorem dX2_faresOf_42 : decode cX2_faresOf 42 = .ok (.ireturn, 1) := by decide +kernel
theorem dX2_fare_0 : decode cX2_fare 0 = .ok (.aload_n 0, 1) := by decide +kernel
theorem dX2_fare_1 : decode cX2_fare 1 = .ok (.getfield 18, 3) := by decide +kernel
theorem dX2_fare_4 : decode cX2_fare 4 = .ok (.iload_n 2, 1) := by decide +kernel
theorem dX2_fare_5 : decode cX2_fare 5 = .ok (.iaload, 1) := by decide +kernel
theorem dX2_fare_6 : decode cX2_fare 6 = .ok (.bipush (-106), 2) := by decide +kernel
theorem dX2_fare_8 : decode cX2_fare 8 = .ok (.if_icmp .ne 5, 3) := by decide +kernel
theorem dX2_fare_11 : decode cX2_fare 11 = .ok (.iconst 0, 1) := by decide +kernel
theorem dX2_fare_12 : decode cX2_fare 12 = .ok (.ireturn, 1) := by decide +kernel
theorem dX2_fare_13 : decode cX2_fare 13 = .ok (.aload_n 0, 1) := by decide +kernel
theorem dX2_fare_14 : decode cX2_fare 14 = .ok (.aload_n 1, 1) := by decide +kernel
theorem dX2_fare_15 : decode cX2_fare 15 = .ok (.iload_n 2, 1) := by decide +kernel
theorem dX2_fare_16 : decode cX2_fare 16 = .ok (.iconst 3, 1) := by decide +kernel
theorem dX2_fare_17 : decode cX2_fare 17 = .ok (.iconst 0, 1) := by decide +kernel
theorem dX2_fare_18 : decode cX2_fare 18 = .ok (.invokevirtual 103, 3) := by decide +kernel
theorem dX2_fare_21 : decode cX2_fare 21 = .ok (.aload_n 0, 1) := by decide +kernel
theorem dX2_fare_22 : decode cX2_fare 22 = .ok (.aload_n 1, 1) := by decide +kernel
theorem dX2_fare_23 : decode cX2_fare 23 = .ok (.iload_n 2, 1) := by decide +kernel
theorem dX2_fare_24 : decode cX2_fare 24 = .ok (.iconst 4, 1) := by decide +kernel
theorem dX2_fare_25 : decode cX2_fare 25 = .ok (.iconst 1, 1) := by decide +kernel
theorem dX2_fare_26 : decode cX2_fare 26 = .ok (.invokevirtual 103, 3) := by decide +kernel
theorem dX2_fare_29 : decode cX2_fare 29 = .ok (.iadd, 1) := by decide +kernel
theorem dX2_fare_30 : decode cX2_fare 30 = .ok (.ireturn, 1) := by decide +kernel
theorem dX2_share_0 : decode cX2_share 0 = .ok (.aload_n 1, 1) := by decide +kernel
theorem dX2_share_1 : decode cX2_share 1 = .ok (.getfield 78, 3) := by decide +kernel
theorem dX2_share_4 : decode cX2_share 4 = .ok (.iload_n 3, 1) := by decide +kernel
theorem dX2_share_5 : decode cX2_share 5 = .ok (.iaload, 1) := by decide +kernel
theorem dX2_share_6 : decode cX2_share 6 = .ok (.istore 5, 2) := by decide +kernel
theorem dX2_share_8 : decode cX2_share 8 = .ok (.iconst 0, 1) := by decide +kernel
theorem dX2_share_9 : decode cX2_share 9 = .ok (.istore 6, 2) := by decide +kernel
theorem dX2_share_11 : decode cX2_share 11 = .ok (.iconst 0, 1) := by decide +kernel
theorem dX2_share_12 : decode cX2_share 12 = .ok (.istore 7, 2) := by decide +kernel
theorem dX2_share_14 : decode cX2_share 14 = .ok (.iload 7, 2) := by decide +kernel
theorem dX2_share_16 : decode cX2_share 16 = .ok (.aload_n 1, 1) := by decide +kernel
theorem dX2_share_17 : decode cX2_share 17 = .ok (.getfield 34, 3) := by decide +kernel
theorem dX2_share_20 : decode cX2_share 20 = .ok (.if_icmp .ge 34, 3) := by decide +kernel
theorem dX2_share_23 : decode cX2_share 23 = .ok (.aload_n 0, 1) := by decide +kernel
theorem dX2_share_24 : decode cX2_share 24 = .ok (.aload_n 1, 1) := by decide +kernel
theorem dX2_share_25 : decode cX2_share 25 = .ok (.iload_n 2, 1) := by decide +kernel
theorem dX2_share_26 : decode cX2_share 26 = .ok (.iload 7, 2) := by decide +kernel
theorem dX2_share_28 : decode cX2_share 28 = .ok (.iload 4, 2) := by decide +kernel
theorem dX2_share_30 : decode cX2_share 30 = .ok (.invokevirtual 96, 3) := by decide +kernel
theorem dX2_share_33 : decode cX2_share 33 = .ok (.ifCond .eq 15, 3) := by decide +kernel
theorem dX2_share_36 : decode cX2_share 36 = .ok (.iload 6, 2) := by decide +kernel
theorem dX2_share_38 : decode cX2_share 38 = .ok (.aload_n 1, 1) := by decide +kernel
theorem dX2_share_39 : decode cX2_share 39 = .ok (.getfield 57, 3) := by decide +kernel
theorem dX2_share_42 : decode cX2_share 42 = .ok (.iload 7, 2) := by decide +kernel
theorem dX2_share_44 : decode cX2_share 44 = .ok (.iaload, 1) := by decide +kernel
theorem dX2_share_45 : decode cX2_share 45 = .ok (.iadd, 1) := by decide +kernel
theorem dX2_share_46 : decode cX2_share 46 = .ok (.istore 6, 2) := by decide +kernel
theorem dX2_share_48 : decode cX2_share 48 = .ok (.iinc 7 1, 3) := by decide +kernel
theorem dX2_share_51 : decode cX2_share 51 = .ok (.goto (-37), 3) := by decide +kernel
theorem dX2_share_54 : decode cX2_share 54 = .ok (.iload 6, 2) := by decide +kernel
theorem dX2_share_56 : decode cX2_share 56 = .ok (.ifCond .gt 5, 3) := by decide +kernel
theorem dX2_share_59 : decode cX2_share 59 = .ok (.iconst 0, 1) := by decide +kernel
theorem dX2_share_60 : decode cX2_share 60 = .ok (.ireturn, 1) := by decide +kernel
theorem dX2_share_61 : decode cX2_share 61 = .ok (.iload 5, 2) := by decide +kernel
theorem dX2_share_63 : decode cX2_share 63 = .ok (.istore 7, 2) := by decide +kernel
theorem dX2_share_65 : decode cX2_share 65 = .ok (.iconst 0, 1) := by decide +kernel
theorem dX2_share_66 : decode cX2_share 66 = .ok (.istore 8, 2) := by decide +kernel
theorem dX2_share_68 : decode cX2_share 68 = .ok (.iconst 0, 1) := by decide +kernel
theorem dX2_share_69 : decode cX2_share 69 = .ok (.istore 9, 2) := by decide +kernel
theorem dX2_share_71 : decode cX2_share 71 = .ok (.iload 9, 2) := by decide +kernel
theorem dX2_share_73 : decode cX2_share 73 = .ok (.aload_n 1, 1) := by decide +kernel
theorem dX2_share_74 : decode cX2_share 74 = .ok (.getfield 34, 3) := by decide +kernel
theorem dX2_share_77 : decode cX2_share 77 = .ok (.if_icmp .ge 56, 3) := by decide +kernel
theorem dX2_share_80 : decode cX2_share 80 = .ok (.aload_n 0, 1) := by decide +kernel
theorem dX2_share_81 : decode cX2_share 81 = .ok (.aload_n 1, 1) := by decide +kernel
theorem dX2_share_82 : decode cX2_share 82 = .ok (.iload_n 2, 1) := by decide +kernel
theorem dX2_share_83 : decode cX2_share 83 = .ok (.iload 9, 2) := by decide +kernel
theorem dX2_share_85 : decode cX2_share 85 = .ok (.iload 4, 2) := by decide +kernel
theorem dX2_share_87 : decode cX2_share 87 = .ok (.invokevirtual 96, 3) := by decide +kernel
theorem dX2_share_90 : decode cX2_share 90 = .ok (.ifCond .eq 37, 3) := by decide +kernel
theorem dX2_share_93 : decode cX2_share 93 = .ok (.iload 7, 2) := by decide +kernel
theorem dX2_share_95 : decode cX2_share 95 = .ok (.iload 5, 2) := by decide +kernel
theorem dX2_share_97 : decode cX2_share 97 = .ok (.aload_n 1, 1) := by decide +kernel
theorem dX2_share_98 : decode cX2_share 98 = .ok (.getfield 57, 3) := by decide +kernel
theorem dX2_share_101 : decode cX2_share 101 = .ok (.iload 9, 2) := by decide +kernel
theorem dX2_share_103 : decode cX2_share 103 = .ok (.iaload, 1) := by decide +kernel
theorem dX2_share_104 : decode cX2_share 104 = .ok (.imul, 1) := by decide +kernel
theorem dX2_share_105 : decode cX2_share 105 = .ok (.iload 6, 2) := by decide +kernel
theorem dX2_share_107 : decode cX2_share 107 = .ok (.idiv, 1) := by decide +kernel
theorem dX2_share_108 : decode cX2_share 108 = .ok (.isub, 1) := by decide +kernel
theorem dX2_share_109 : decode cX2_share 109 = .ok (.istore 7, 2) := by decide +kernel
theorem dX2_share_111 : decode cX2_share 111 = .ok (.iload 8, 2) := by decide +kernel
theorem dX2_share_113 : decode cX2_share 113 = .ok (.iload 9, 2) := by decide +kernel
theorem dX2_share_115 : decode cX2_share 115 = .ok (.iload_n 2, 1) := by decide +kernel
theorem dX2_share_116 : decode cX2_share 116 = .ok (.if_icmp .ge 7, 3) := by decide +kernel
theorem dX2_share_119 : decode cX2_share 119 = .ok (.iconst 1, 1) := by decide +kernel
theorem dX2_share_120 : decode cX2_share 120 = .ok (.goto 4, 3) := by decide +kernel
theorem dX2_share_123 : decode cX2_share 123 = .ok (.iconst 0, 1) := by decide +kernel
theorem dX2_share_124 : decode cX2_share 124 = .ok (.iadd, 1) := by decide +kernel
theorem dX2_share_125 : decode cX2_share 125 = .ok (.istore 8, 2) := by decide +kernel
theorem dX2_share_127 : decode cX2_share 127 = .ok (.iinc 9 1, 3) := by decide +kernel
theorem dX2_share_130 : decode cX2_share 130 = .ok (.goto (-59), 3) := by decide +kernel
theorem dX2_share_133 : decode cX2_share 133 = .ok (.iload 5, 2) := by decide +kernel
theorem dX2_share_135 : decode cX2_share 135 = .ok (.aload_n 1, 1) := by decide +kernel
theorem dX2_share_136 : decode cX2_share 136 = .ok (.getfield 57, 3) := by decide +kernel
theorem dX2_share_139 : decode cX2_share 139 = .ok (.iload_n 2, 1) := by decide +kernel
theorem dX2_share_140 : decode cX2_share 140 = .ok (.iaload, 1) := by decide +kernel
theorem dX2_share_141 : decode cX2_share 141 = .ok (.imul, 1) := by decide +kernel
theorem dX2_share_142 : decode cX2_share 142 = .ok (.iload 6, 2) := by decide +kernel
theorem dX2_share_144 : decode cX2_share 144 = .ok (.idiv, 1) := by decide +kernel
theorem dX2_share_145 : decode cX2_share 145 = .ok (.istore 9, 2) := by decide +kernel
theorem dX2_share_147 : decode cX2_share 147 = .ok (.iload 8, 2) := by decide +kernel
theorem dX2_share_149 : decode cX2_share 149 = .ok (.iload 7, 2) := by decide +kernel
theorem dX2_share_151 : decode cX2_share 151 = .ok (.if_icmp .ge 10, 3) := by decide +kernel
theorem dX2_share_154 : decode cX2_share 154 = .ok (.iload 9, 2) := by decide +kernel
theorem dX2_share_156 : decode cX2_share 156 = .ok (.iconst 1, 1) := by decide +kernel
theorem dX2_share_157 : decode cX2_share 157 = .ok (.iadd, 1) := by decide +kernel
theorem dX2_share_158 : decode cX2_share 158 = .ok (.goto 5, 3) := by decide +kernel
theorem dX2_share_161 : decode cX2_share 161 = .ok (.iload 9, 2) := by decide +kernel
theorem dX2_share_163 : decode cX2_share 163 = .ok (.ireturn, 1) := by decide +kernel
theorem dX2_shares_0 : decode cX2_shares 0 = .ok (.aload_n 0, 1) := by decide +kernel
theorem dX2_shares_1 : decode cX2_shares 1 = .ok (.getfield 18, 3) := by decide +kernel
theorem dX2_shares_4 : decode cX2_shares 4 = .ok (.iload_n 2, 1) := by decide +kernel
theorem dX2_shares_5 : decode cX2_shares 5 = .ok (.iaload, 1) := by decide +kernel
theorem dX2_shares_6 : decode cX2_shares 6 = .ok (.aload_n 0, 1) := by decide +kernel
theorem dX2_shares_7 : decode cX2_shares 7 = .ok (.getfield 18, 3) := by decide +kernel
theorem dX2_shares_10 : decode cX2_shares 10 = .ok (.iload_n 3, 1) := by decide +kernel
theorem dX2_shares_11 : decode cX2_shares 11 = .ok (.iaload, 1) := by decide +kernel
theorem dX2_shares_12 : decode cX2_shares 12 = .ok (.if_icmp .ne 25, 3) := by decide +kernel
theorem dX2_shares_15 : decode cX2_shares 15 = .ok (.iload 4, 2) := by decide +kernel
theorem dX2_shares_17 : decode cX2_shares 17 = .ok (.ifCond .eq 16, 3) := by decide +kernel
theorem dX2_shares_20 : decode cX2_shares 20 = .ok (.aload_n 1, 1) := by decide +kernel
theorem dX2_shares_21 : decode cX2_shares 21 = .ok (.iload_n 2, 1) := by decide +kernel
theorem dX2_shares_22 : decode cX2_shares 22 = .ok (.invokevirtual 107, 3) := by decide +kernel
theorem dX2_shares_25 : decode cX2_shares 25 = .ok (.aload_n 1, 1) := by decide +kernel
theorem dX2_shares_26 : decode cX2_shares 26 = .ok (.iload_n 3, 1) := by decide +kernel
theorem dX2_shares_27 : decode cX2_shares 27 = .ok (.invokevirtual 107, 3) := by decide +kernel
theorem dX2_shares_30 : decode cX2_shares 30 = .ok (.if_icmp .ne 7, 3) := by decide +kernel
theorem dX2_shares_33 : decode cX2_shares 33 = .ok (.iconst 1, 1) := by decide +kernel
theorem dX2_shares_34 : decode cX2_shares 34 = .ok (.goto 4, 3) := by decide +kernel
theorem dX2_shares_37 : decode cX2_shares 37 = .ok (.iconst 0, 1) := by decide +kernel
theorem dX2_shares_38 : decode cX2_shares 38 = .ok (.ireturn, 1) := by decide +kernel
theorem dX3_init_0 : decode cX3_init 0 = .ok (.aload_n 0, 1) := by decide +kernel
theorem dX3_init_1 : decode cX3_init 1 = .ok (.invokespecial 3, 3) := by decide +kernel
theorem dX3_init_4 : decode cX3_init 4 = .ok (.aload_n 0, 1) := by decide +kernel
theorem dX3_init_5 : decode cX3_init 5 = .ok (.iconst 5, 1) := by decide +kernel
theorem dX3_init_6 : decode cX3_init 6 = .ok (.newarray .int, 2) := by decide +kernel
theorem dX3_init_8 : decode cX3_init 8 = .ok (.putfield 9, 3) := by decide +kernel
theorem dX3_init_11 : decode cX3_init 11 = .ok (.aload_n 0, 1) := by decide +kernel
theorem dX3_init_12 : decode cX3_init 12 = .ok (.bipush 6, 2) := by decide +kernel
theorem dX3_init_14 : decode cX3_init 14 = .ok (.newarray .int, 2) := by decide +kernel
theorem dX3_init_16 : decode cX3_init 16 = .ok (.putfield 15, 3) := by decide +kernel
theorem dX3_init_19 : decode cX3_init 19 = .ok (.aload_n 0, 1) := by decide +kernel
theorem dX3_init_20 : decode cX3_init 20 = .ok (.bipush 6, 2) := by decide +kernel
theorem dX3_init_22 : decode cX3_init 22 = .ok (.newarray .int, 2) := by decide +kernel
theorem dX3_init_24 : decode cX3_init 24 = .ok (.putfield 18, 3) := by decide +kernel
theorem dX3_init_27 : decode cX3_init 27 = .ok (.aload_n 0, 1) := by decide +kernel
theorem dX3_init_28 : decode cX3_init 28 = .ok (.bipush 8, 2) := by decide +kernel
theorem dX3_init_30 : decode cX3_init 30 = .ok (.newarray .int, 2) := by decide +kernel
theorem dX3_init_32 : decode cX3_init 32 = .ok (.putfield 21, 3) := by decide +kernel
theorem dX3_init_35 : decode cX3_init 35 = .ok (.aload_n 0, 1) := by decide +kernel
theorem dX3_init_36 : decode cX3_init 36 = .ok (.bipush 8, 2) := by decide +kernel
theorem dX3_init_38 : decode cX3_init 38 = .ok (.newarray .int, 2) := by decide +kernel
theorem dX3_init_40 : decode cX3_init 40 = .ok (.putfield 24, 3) := by decide +kernel
theorem dX3_init_43 : decode cX3_init 43 = .ok (.aload_n 0, 1) := by decide +kernel
theorem dX3_init_44 : decode cX3_init 44 = .ok (.bipush 24, 2) := by decide +kernel
theorem dX3_init_46 : decode cX3_init 46 = .ok (.newarray .int, 2) := by decide +kernel
theorem dX3_init_48 : decode cX3_init 48 = .ok (.putfield 27, 3) := by decide +kernel
theorem dX3_init_51 : decode cX3_init 51 = .ok (.aload_n 0, 1) := by decide +kernel
theorem dX3_init_52 : decode cX3_init 52 = .ok (.bipush 24, 2) := by decide +kernel
theorem dX3_init_54 : decode cX3_init 54 = .ok (.newarray .int, 2) := by decide +kernel
theorem dX3_init_56 : decode cX3_init 56 = .ok (.putfield 30, 3) := by decide +kernel
theorem dX3_init_59 : decode cX3_init 59 = .ok (.aload_n 0, 1) := by decide +kernel
theorem dX3_init_60 : decode cX3_init 60 = .ok (.bipush 24, 2) := by decide +kernel
theorem dX3_init_62 : decode cX3_init 62 = .ok (.newarray .int, 2) := by decide +kernel
theorem dX3_init_64 : decode cX3_init 64 = .ok (.putfield 33, 3) := by decide +kernel
theorem dX3_init_67 : decode cX3_init 67 = .ok (.aload_n 0, 1) := by decide +kernel
theorem dX3_init_68 : decode cX3_init 68 = .ok (.bipush 24, 2) := by decide +kernel
theorem dX3_init_70 : decode cX3_init 70 = .ok (.newarray .int, 2) := by decide +kernel
theorem dX3_init_72 : decode cX3_init 72 = .ok (.putfield 36, 3) := by decide +kernel
theorem dX3_init_75 : decode cX3_init 75 = .ok (.iconst 0, 1) := by decide +kernel
theorem dX3_init_76 : decode cX3_init 76 = .ok (.istore_n 1, 1) := by decide +kernel
theorem dX3_init_77 : decode cX3_init 77 = .ok (.iload_n 1, 1) := by decide +kernel
theorem dX3_init_78 : decode cX3_init 78 = .ok (.iconst 5, 1) := by decide +kernel
theorem dX3_init_79 : decode cX3_init 79 = .ok (.if_icmp .ge 20, 3) := by decide +kernel
theorem dX3_init_82 : decode cX3_init 82 = .ok (.aload_n 0, 1) := by decide +kernel
theorem dX3_init_83 : decode cX3_init 83 = .ok (.getfield 9, 3) := by decide +kernel
theorem dX3_init_86 : decode cX3_init 86 = .ok (.iload_n 1, 1) := by decide +kernel
theorem dX3_init_87 : decode cX3_init 87 = .ok (.getstatic 39, 3) := by decide +kernel
theorem dX3_init_90 : decode cX3_init 90 = .ok (.iload_n 1, 1) := by decide +kernel
theorem dX3_init_91 : decode cX3_init 91 = .ok (.iaload, 1) := by decide +kernel
theorem dX3_init_92 : decode cX3_init 92 = .ok (.iastore, 1) := by decide +kernel
theorem dX3_init_93 : decode cX3_init 93 = .ok (.iinc 1 1, 3) := by decide +kernel
theorem dX3_init_96 : decode cX3_init 96 = .ok (.goto (-19), 3) := by decide +kernel
theorem dX3_init_99 : decode cX3_init 99 = .ok (.iconst 0, 1) := by decide +kernel
theorem dX3_init_100 : decode cX3_init 100 = .ok (.istore_n 1, 1) := by decide +kernel
theorem dX3_init_101 : decode cX3_init 101 = .ok (.iload_n 1, 1) := by decide +kernel
theorem dX3_init_102 : decode cX3_init 102 = .ok (.bipush 6, 2) := by decide +kernel
theorem dX3_init_104 : decode cX3_init 104 = .ok (.if_icmp .ge 19, 3) := by decide +kernel
theorem dX3_init_107 : decode cX3_init 107 = .ok (.aload_n 0, 1) := by decide +kernel
theorem dX3_init_108 : decode cX3_init 108 = .ok (.getfield 15, 3) := by decide +kernel
theorem dX3_init_111 : decode cX3_init 111 = .ok (.iload_n 1, 1) := by decide +kernel
theorem dX3_init_112 : decode cX3_init 112 = .ok (.bipush 60, 2) := by decide +kernel
theorem dX3_init_114 : decode cX3_init 114 = .ok (.iload_n 1, 1) := by decide +kernel
theorem dX3_init_115 : decode cX3_init 115 = .ok (.imul, 1) := by decide +kernel
theorem dX3_init_116 : decode cX3_init 116 = .ok (.iastore, 1) := by decide +kernel
theorem dX3_init_117 : decode cX3_init 117 = .ok (.iinc 1 1, 3) := by decide +kernel
theorem dX3_init_120 : decode cX3_init 120 = .ok (.goto (-19), 3) := by decide +kernel
theorem dX3_init_123 : decode cX3_init 123 = .ok (.iconst 0, 1) := by decide +kernel
theorem dX3_init_124 : decode cX3_init 124 = .ok (.istore_n 1, 1) := by decide +kernel
theorem dX3_init_125 : decode cX3_init 125 = .ok (.iload_n 1, 1) := by decide +kernel
theorem dX3_init_126 : decode cX3_init 126 = .ok (.bipush 8, 2) := by decide +kernel
theorem dX3_init_128 : decode cX3_init 128 = .ok (.if_icmp .ge 30, 3) := by decide +kernel
theorem dX3_init_131 : decode cX3_init 131 = .ok (.aload_n 0, 1) := by decide +kernel
theorem dX3_init_132 : decode cX3_init 132 = .ok (.getfield 21, 3) := by decide +kernel
theorem dX3_init_135 : decode cX3_init 135 = .ok (.iload_n 1, 1) := by decide +kernel
theorem dX3_init_136 : decode cX3_init 136 = .ok (.bipush 60, 2) := by decide +kernel
theorem dX3_init_138 : decode cX3_init 138 = .ok (.iload_n 1, 1) := by decide +kernel
theorem dX3_init_139 : decode cX3_init 139 = .ok (.imul, 1) := by decide +kernel
theorem dX3_init_140 : decode cX3_init 140 = .ok (.bipush 60, 2) := by decide +kernel
theorem dX3_init_142 : decode cX3_init 142 = .ok (.iadd, 1) := by decide +kernel
theorem dX3_init_143 : decode cX3_init 143 = .ok (.iastore, 1) := by decide +kernel
theorem dX3_init_144 : decode cX3_init 144 = .ok (.aload_n 0, 1) := by decide +kernel
theorem dX3_init_145 : decode cX3_init 145 = .ok (.getfield 24, 3) := by decide +kernel
theorem dX3_init_148 : decode cX3_init 148 = .ok (.iload_n 1, 1) := by decide +kernel
theorem dX3_init_149 : decode cX3_init 149 = .ok (.bipush 6, 2) := by decide +kernel
theorem dX3_init_151 : decode cX3_init 151 = .ok (.iastore, 1) := by decide +kernel
theorem dX3_init_152 : decode cX3_init 152 = .ok (.iinc 1 1, 3) := by decide +kernel
theorem dX3_init_155 : decode cX3_init 155 = .ok (.goto (-30), 3) := by decide +kernel
theorem dX3_init_158 : decode cX3_init 158 = .ok (.return_, 1) := by decide +kernel
theorem dX3_copyFrom_0 : decode cX3_copyFrom 0 = .ok (.aload_n 1, 1) := by decide +kernel
theorem dX3_copyFrom_1 : decode cX3_copyFrom 1 = .ok (.getfield 9, 3) := by decide +kernel
theorem dX3_copyFrom_4 : decode cX3_copyFrom 4 = .ok (.iconst 0, 1) := by decide +kernel
theorem dX3_copyFrom_5 : decode cX3_copyFrom 5 = .ok (.aload_n 0, 1) := by decide +kernel
theorem dX3_copyFrom_6 : decode cX3_copyFrom 6 = .ok (.getfield 9, 3) := by decide +kernel
theorem dX3_copyFrom_9 : decode cX3_copyFrom 9 = .ok (.iconst 0, 1) := by decide +kernel
theorem dX3_copyFrom_10 : decode cX3_copyFrom 10 = .ok (.iconst 5, 1) := by decide +kernel
theorem dX3_copyFrom_11 : decode cX3_copyFrom 11 = .ok (.invokestatic 42, 3) := by decide +kernel
theorem dX3_copyFrom_14 : decode cX3_copyFrom 14 = .ok (.aload_n 1, 1) := by decide +kernel
theorem dX3_copyFrom_15 : decode cX3_copyFrom 15 = .ok (.getfield 15, 3) := by decide +kernel
theorem dX3_copyFrom_18 : decode cX3_copyFrom 18 = .ok (.iconst 0, 1) := by decide +kernel
theorem dX3_copyFrom_19 : decode cX3_copyFrom 19 = .ok (.aload_n 0, 1) := by decide +kernel
theorem dX3_copyFrom_20 : decode cX3_copyFrom 20 = .ok (.getfield 15, 3) := by decide +kernel
theorem dX3_copyFrom_23 : decode cX3_copyFrom 23 = .ok (.iconst 0, 1) := by decide +kernel
theorem dX3_copyFrom_24 : decode cX3_copyFrom 24 = .ok (.bipush 6, 2) := by decide +kernel
theorem dX3_copyFrom_26 : decode cX3_copyFrom 26 = .ok (.invokestatic 42, 3) := by decide +kernel
theorem dX3_copyFrom_29 : decode cX3_copyFrom 29 = .ok (.aload_n 1, 1) := by decide +kernel
theorem dX3_copyFrom_30 : decode cX3_copyFrom 30 = .ok (.getfield 18, 3) := by decide +kernel
theorem dX3_copyFrom_33 : decode cX3_copyFrom 33 = .ok (.iconst 0, 1) := by decide +kernel
theorem dX3_copyFrom_34 : decode cX3_copyFrom 34 = .ok (.aload_n 0, 1) := by decide +kernel
theorem dX3_copyFrom_35 : decode cX3_copyFrom 35 = .ok (.getfield 18, 3) := by decide +kernel
theorem dX3_copyFrom_38 : decode cX3_copyFrom 38 = .ok (.iconst 0, 1) := by decide +kernel
theorem dX3_copyFrom_39 : decode cX3_copyFrom 39 = .ok (.bipush 6, 2) := by decide +kernel
theorem dX3_copyFrom_41 : decode cX3_copyFrom 41 = .ok (.invokestatic 42, 3) := by decide +kernel
theorem dX3_copyFrom_44 : decode cX3_copyFrom 44 = .ok (.aload_n 1, 1) := by decide +kernel
theorem dX3_copyFrom_45 : decode cX3_copyFrom 45 = .ok (.getfield 21, 3) := by decide +kernel
theorem dX3_copyFrom_48 : decode cX3_copyFrom 48 = .ok (.iconst 0, 1) := by decide +kernel
theorem dX3_copyFrom_49 : decode cX3_copyFrom 49 = .ok (.aload_n 0, 1) := by decide +kernel
theorem dX3_copyFrom_50 : decode cX3_copyFrom 50 = .ok (.getfield 21, 3) := by decide +kernel
theorem dX3_copyFrom_53 : decode cX3_copyFrom 53 = .ok (.iconst 0, 1) := by decide +kernel
theorem dX3_copyFrom_54 : decode cX3_copyFrom 54 = .ok (.bipush 8, 2) := by decide +kernel
theorem dX3_copyFrom_56 : decode cX3_copyFrom 56 = .ok (.invokestatic 42, 3) := by decide +kernel
theorem dX3_copyFrom_59 : decode cX3_copyFrom 59 = .ok (.aload_n 1, 1) := by decide +kernel
theorem dX3_copyFrom_60 : decode cX3_copyFrom 60 = .ok (.getfield 24, 3) := by decide +kernel
theorem dX3_copyFrom_63 : decode cX3_copyFrom 63 = .ok (.iconst 0, 1) := by decide +kernel
theorem dX3_copyFrom_64 : decode cX3_copyFrom 64 = .ok (.aload_n 0, 1) := by decide +kernel
theorem dX3_copyFrom_65 : decode cX3_copyFrom 65 = .ok (.getfield 24, 3) := by decide +kernel
theorem dX3_copyFrom_68 : decode cX3_copyFrom 68 = .ok (.iconst 0, 1) := by decide +kernel
theorem dX3_copyFrom_69 : decode cX3_copyFrom 69 = .ok (.bipush 8, 2) := by decide +kernel
theorem dX3_copyFrom_71 : decode cX3_copyFrom 71 = .ok (.invokestatic 42, 3) := by decide +kernel
theorem dX3_copyFrom_74 : decode cX3_copyFrom 74 = .ok (.aload_n 1, 1) := by decide +kernel
theorem dX3_copyFrom_75 : decode cX3_copyFrom 75 = .ok (.getfield 27, 3) := by decide +kernel
theorem dX3_copyFrom_78 : decode cX3_copyFrom 78 = .ok (.iconst 0, 1) := by decide +kernel
theorem dX3_copyFrom_79 : decode cX3_copyFrom 79 = .ok (.aload_n 0, 1) := by decide +kernel
theorem dX3_copyFrom_80 : decode cX3_copyFrom 80 = .ok (.getfield 27, 3) := by decide +kernel
theorem dX3_copyFrom_83 : decode cX3_copyFrom 83 = .ok (.iconst 0, 1) := by decide +kernel
theorem dX3_copyFrom_84 : decode cX3_copyFrom 84 = .ok (.bipush 24, 2) := by decide +kernel
theorem dX3_copyFrom_86 : decode cX3_copyFrom 86 = .ok (.invokestatic 42, 3) := by decide +kernel
theorem dX3_copyFrom_89 : decode cX3_copyFrom 89 = .ok (.aload_n 1, 1) := by decide +kernel
theorem dX3_copyFrom_90 : decode cX3_copyFrom 90 = .ok (.getfield 30, 3) := by decide +kernel
theorem dX3_copyFrom_93 : decode cX3_copyFrom 93 = .ok (.iconst 0, 1) := by decide +kernel
theorem dX3_copyFrom_94 : decode cX3_copyFrom 94 = .ok (.aload_n 0, 1) := by decide +kernel
theorem dX3_copyFrom_95 : decode cX3_copyFrom 95 = .ok (.getfield 30, 3) := by decide +kernel
theorem dX3_copyFrom_98 : decode cX3_copyFrom 98 = .ok (.iconst 0, 1) := by decide +kernel
theorem dX3_copyFrom_99 : decode cX3_copyFrom 99 = .ok (.bipush 24, 2) := by decide +kernel
theorem dX3_copyFrom_101 : decode cX3_copyFrom 101 = .ok (.invokestatic 42, 3) := by decide +kernel
theorem dX3_copyFrom_104 : decode cX3_copyFrom 104 = .ok (.aload_n 1, 1) := by decide +kernel
theorem dX3_copyFrom_105 : decode cX3_copyFrom 105 = .ok (.getfield 33, 3) := by decide +kernel
theorem dX3_copyFrom_108 : decode cX3_copyFrom 108 = .ok (.iconst 0, 1) := by decide +kernel
theorem dX3_copyFrom_109 : decode cX3_copyFrom 109 = .ok (.aload_n 0, 1) := by decide +kernel
theorem dX3_copyFrom_110 : decode cX3_copyFrom 110 = .ok (.getfield 33, 3) := by decide +kernel
theorem dX3_copyFrom_113 : decode cX3_copyFrom 113 = .ok (.iconst 0, 1) := by decide +kernel
theorem dX3_copyFrom_114 : decode cX3_copyFrom 114 = .ok (.bipush 24, 2) := by decide +kernel
theorem dX3_copyFrom_116 : decode cX3_copyFrom 116 = .ok (.invokestatic 42, 3) := by decide +kernel
theorem dX3_copyFrom_119 : decode cX3_copyFrom 119 = .ok (.aload_n 1, 1) := by decide +kernel
theorem dX3_copyFrom_120 : decode cX3_copyFrom 120 = .ok (.getfield 36, 3) := by decide +kernel
theorem dX3_copyFrom_123 : decode cX3_copyFrom 123 = .ok (.iconst 0, 1) := by decide +kernel
theorem dX3_copyFrom_124 : decode cX3_copyFrom 124 = .ok (.aload_n 0, 1) := by decide +kernel
theorem dX3_copyFrom_125 : decode cX3_copyFrom 125 = .ok (.getfield 36, 3) := by decide +kernel
theorem dX3_copyFrom_128 : decode cX3_copyFrom 128 = .ok (.iconst 0, 1) := by decide +kernel
theorem dX3_copyFrom_129 : decode cX3_copyFrom 129 = .ok (.bipush 24, 2) := by decide +kernel
theorem dX3_copyFrom_131 : decode cX3_copyFrom 131 = .ok (.invokestatic 42, 3) := by decide +kernel
theorem dX3_copyFrom_134 : decode cX3_copyFrom 134 = .ok (.aload_n 0, 1) := by decide +kernel
theorem dX3_copyFrom_135 : decode cX3_copyFrom 135 = .ok (.aload_n 1, 1) := by decide +kernel
theorem dX3_copyFrom_136 : decode cX3_copyFrom 136 = .ok (.getfield 48, 3) := by decide +kernel
theorem dX3_copyFrom_139 : decode cX3_copyFrom 139 = .ok (.putfield 48, 3) := by decide +kernel
theorem dX3_copyFrom_142 : decode cX3_copyFrom 142 = .ok (.return_, 1) := by decide +kernel
theorem dX3_addRider_0 : decode cX3_addRider 0 = .ok (.aload_n 0, 1) := by decide +kernel
theorem dX3_addRider_1 : decode cX3_addRider 1 = .ok (.getfield 48, 3) := by decide +kernel
theorem dX3_addRider_4 : decode cX3_addRider 4 = .ok (.bipush 24, 2) := by decide +kernel
theorem dX3_addRider_6 : decode cX3_addRider 6 = .ok (.if_icmp .lt 4, 3) := by decide +kernel
theorem dX3_addRider_9 : decode cX3_addRider 9 = .ok (.return_, 1) := by decide +kernel
theorem dX3_addRider_10 : decode cX3_addRider 10 = .ok (.aload_n 0, 1) := by decide +kernel
theorem dX3_addRider_11 : decode cX3_addRider 11 = .ok (.getfield 27, 3) := by decide +kernel
theorem dX3_addRider_14 : decode cX3_addRider 14 = .ok (.aload_n 0, 1) := by decide +kernel
theorem dX3_addRider_15 : decode cX3_addRider 15 = .ok (.getfield 48, 3) := by decide +kernel
theorem dX3_addRider_18 : decode cX3_addRider 18 = .ok (.iload_n 1, 1) := by decide +kernel
theorem dX3_addRider_19 : decode cX3_addRider 19 = .ok (.iastore, 1) := by decide +kernel
theorem dX3_addRider_20 : decode cX3_addRider 20 = .ok (.aload_n 0, 1) := by decide +kernel
theorem dX3_addRider_21 : decode cX3_addRider 21 = .ok (.getfield 30, 3) := by decide +kernel
theorem dX3_addRider_24 : decode cX3_addRider 24 = .ok (.aload_n 0, 1) := by decide +kernel
theorem dX3_addRider_25 : decode cX3_addRider 25 = .ok (.getfield 48, 3) := by decide +kernel
theorem dX3_addRider_28 : decode cX3_addRider 28 = .ok (.iload_n 2, 1) := by decide +kernel
theorem dX3_addRider_29 : decode cX3_addRider 29 = .ok (.iastore, 1) := by decide +kernel
theorem dX3_addRider_30 : decode cX3_addRider 30 = .ok (.aload_n 0, 1) := by decide +kernel
theorem dX3_addRider_31 : decode cX3_addRider 31 = .ok (.getfield 33, 3) := by decide +kernel
theorem dX3_addRider_34 : decode cX3_addRider 34 = .ok (.aload_n 0, 1) := by decide +kernel
theorem dX3_addRider_35 : decode cX3_addRider 35 = .ok (.getfield 48, 3) := by decide +kernel
theorem dX3_addRider_38 : decode cX3_addRider 38 = .ok (.iload_n 3, 1) := by decide +kernel
theorem dX3_addRider_39 : decode cX3_addRider 39 = .ok (.iastore, 1) := by decide +kernel
theorem dX3_addRider_40 : decode cX3_addRider 40 = .ok (.aload_n 0, 1) := by decide +kernel
theorem dX3_addRider_41 : decode cX3_addRider 41 = .ok (.getfield 36, 3) := by decide +kernel
theorem dX3_addRider_44 : decode cX3_addRider 44 = .ok (.aload_n 0, 1) := by decide +kernel
theorem dX3_addRider_45 : decode cX3_addRider 45 = .ok (.getfield 48, 3) := by decide +kernel
theorem dX3_addRider_48 : decode cX3_addRider 48 = .ok (.iload 4, 2) := by decide +kernel
theorem dX3_addRider_50 : decode cX3_addRider 50 = .ok (.iastore, 1) := by decide +kernel
theorem dX3_addRider_51 : decode cX3_addRider 51 = .ok (.aload_n 0, 1) := by decide +kernel
theorem dX3_addRider_52 : decode cX3_addRider 52 = .ok (.dup, 1) := by decide +kernel
theorem dX3_addRider_53 : decode cX3_addRider 53 = .ok (.getfield 48, 3) := by decide +kernel
theorem dX3_addRider_56 : decode cX3_addRider 56 = .ok (.iconst 1, 1) := by decide +kernel
theorem dX3_addRider_57 : decode cX3_addRider 57 = .ok (.iadd, 1) := by decide +kernel
theorem dX3_addRider_58 : decode cX3_addRider 58 = .ok (.putfield 48, 3) := by decide +kernel
theorem dX3_addRider_61 : decode cX3_addRider 61 = .ok (.return_, 1) := by decide +kernel
theorem dX3_removeRider_0 : decode cX3_removeRider 0 = .ok (.iload_n 1, 1) := by decide +kernel
theorem dX3_removeRider_1 : decode cX3_removeRider 1 = .ok (.istore_n 2, 1) := by decide +kernel
theorem dX3_removeRider_2 : decode cX3_removeRider 2 = .ok (.iload_n 2, 1) := by decide +kernel
theorem dX3_removeRider_3 : decode cX3_removeRider 3 = .ok (.aload_n 0, 1) := by decide +kernel
theorem dX3_removeRider_4 : decode cX3_removeRider 4 = .ok (.getfield 48, 3) := by decide +kernel
theorem dX3_removeRider_7 : decode cX3_removeRider 7 = .ok (.iconst 1, 1) := by decide +kernel
theorem dX3_removeRider_8 : decode cX3_removeRider 8 = .ok (.isub, 1) := by decide +kernel
theorem dX3_removeRider_9 : decode cX3_removeRider 9 = .ok (.if_icmp .ge 65, 3) := by decide +kernel
theorem dX3_removeRider_12 : decode cX3_removeRider 12 = .ok (.aload_n 0, 1) := by decide +kernel
theorem dX3_removeRider_13 : decode cX3_removeRider 13 = .ok (.getfield 27, 3) := by decide +kernel
theorem dX3_removeRider_16 : decode cX3_removeRider 16 = .ok (.iload_n 2, 1) := by decide +kernel
theorem dX3_removeRider_17 : decode cX3_removeRider 17 = .ok (.aload_n 0, 1) := by decide +kernel
theorem dX3_removeRider_18 : decode cX3_removeRider 18 = .ok (.getfield 27, 3) := by decide +kernel
theorem dX3_removeRider_21 : decode cX3_removeRider 21 = .ok (.iload_n 2, 1) := by decide +kernel
theorem dX3_removeRider_22 : decode cX3_removeRider 22 = .ok (.iconst 1, 1) := by decide +kernel
theorem dX3_removeRider_23 : decode cX3_removeRider 23 = .ok (.iadd, 1) := by decide +kernel
theorem dX3_removeRider_24 : decode cX3_removeRider 24 = .ok (.iaload, 1) := by decide +kernel
theorem dX3_removeRider_25 : decode cX3_removeRider 25 = .ok (.iastore, 1) := by decide +kernel
theorem dX3_removeRider_26 : decode cX3_removeRider 26 = .ok (.aload_n 0, 1) := by decide +kernel
theorem dX3_removeRider_27 : decode cX3_removeRider 27 = .ok (.getfield 30, 3) := by decide +kernel
theorem dX3_removeRider_30 : decode cX3_removeRider 30 = .ok (.iload_n 2, 1) := by decide +kernel
theorem dX3_removeRider_31 : decode cX3_removeRider 31 = .ok (.aload_n 0, 1) := by decide +kernel
theorem dX3_removeRider_32 : decode cX3_removeRider 32 = .ok (.getfield 30, 3) := by decide +kernel
theorem dX3_removeRider_35 : decode cX3_removeRider 35 = .ok (.iload_n 2, 1) := by decide +kernel
theorem dX3_removeRider_36 : decode cX3_removeRider 36 = .ok (.iconst 1, 1) := by decide +kernel
theorem dX3_removeRider_37 : decode cX3_removeRider 37 = .ok (.iadd, 1) := by decide +kernel
theorem dX3_removeRider_38 : decode cX3_removeRider 38 = .ok (.iaload, 1) := by decide +kernel
theorem dX3_removeRider_39 : decode cX3_removeRider 39 = .ok (.iastore, 1) := by decide +kernel
theorem dX3_removeRider_40 : decode cX3_removeRider 40 = .ok (.aload_n 0, 1) := by decide +kernel
theorem dX3_removeRider_41 : decode cX3_removeRider 41 = .ok (.getfield 33, 3) := by decide +kernel
theorem dX3_removeRider_44 : decode cX3_removeRider 44 = .ok (.iload_n 2, 1) := by decide +kernel
theorem dX3_removeRider_45 : decode cX3_removeRider 45 = .ok (.aload_n 0, 1) := by decide +kernel
theorem dX3_removeRider_46 : decode cX3_removeRider 46 = .ok (.getfield 33, 3) := by decide +kernel
theorem dX3_removeRider_49 : decode cX3_removeRider 49 = .ok (.iload_n 2, 1) := by decide +kernel
theorem dX3_removeRider_50 : decode cX3_removeRider 50 = .ok (.iconst 1, 1) := by decide +kernel
theorem dX3_removeRider_51 : decode cX3_removeRider 51 = .ok (.iadd, 1) := by decide +kernel
theorem dX3_removeRider_52 : decode cX3_removeRider 52 = .ok (.iaload, 1) := by decide +kernel
theorem dX3_removeRider_53 : decode cX3_removeRider 53 = .ok (.iastore, 1) := by decide +kernel
theorem dX3_removeRider_54 : decode cX3_removeRider 54 = .ok (.aload_n 0, 1) := by decide +kernel
theorem dX3_removeRider_55 : decode cX3_removeRider 55 = .ok (.getfield 36, 3) := by decide +kernel
theorem dX3_removeRider_58 : decode cX3_removeRider 58 = .ok (.iload_n 2, 1) := by decide +kernel
theorem dX3_removeRider_59 : decode cX3_removeRider 59 = .ok (.aload_n 0, 1) := by decide +kernel
theorem dX3_removeRider_60 : decode cX3_removeRider 60 = .ok (.getfield 36, 3) := by decide +kernel
theorem dX3_removeRider_63 : decode cX3_removeRider 63 = .ok (.iload_n 2, 1) := by decide +kernel
theorem dX3_removeRider_64 : decode cX3_removeRider 64 = .ok (.iconst 1, 1) := by decide +kernel
theorem dX3_removeRider_65 : decode cX3_removeRider 65 = .ok (.iadd, 1) := by decide +kernel
theorem dX3_removeRider_66 : decode cX3_removeRider 66 = .ok (.iaload, 1) := by decide +kernel
theorem dX3_removeRider_67 : decode cX3_removeRider 67 = .ok (.iastore, 1) := by decide +kernel
theorem dX3_removeRider_68 : decode cX3_removeRider 68 = .ok (.iinc 2 1, 3) := by decide +kernel
theorem dX3_removeRider_71 : decode cX3_removeRider 71 = .ok (.goto (-69), 3) := by decide +kernel
theorem dX3_removeRider_74 : decode cX3_removeRider 74 = .ok (.aload_n 0, 1) := by decide +kernel
theorem dX3_removeRider_75 : decode cX3_removeRider 75 = .ok (.dup, 1) := by decide +kernel
theorem dX3_removeRider_76 : decode cX3_removeRider 76 = .ok (.getfield 48, 3) := by decide +kernel
theorem dX3_removeRider_79 : decode cX3_removeRider 79 = .ok (.iconst 1, 1) := by decide +kernel
theorem dX3_removeRider_80 : decode cX3_removeRider 80 = .ok (.isub, 1) := by decide +kernel
theorem dX3_removeRider_81 : decode cX3_removeRider 81 = .ok (.putfield 48, 3) := by decide +kernel
theorem dX3_removeRider_84 : decode cX3_removeRider 84 = .ok (.return_, 1) := by decide +kernel
theorem dX3_flightReady_0 : decode cX3_flightReady 0 = .ok (.aload_n 0, 1) := by decide +kernel
theorem dX3_flightReady_1 : decode cX3_flightReady 1 = .ok (.getfield 15, 3) := by decide +kernel
theorem dX3_flightReady_4 : decode cX3_flightReady 4 = .ok (.iload_n 1, 1) := by decide +kernel
theorem dX3_flightReady_5 : decode cX3_flightReady 5 = .ok (.iaload, 1) := by decide +kernel
theorem dX3_flightReady_6 : decode cX3_flightReady 6 = .ok (.aload_n 0, 1) := by decide +kernel
theorem dX3_flightReady_7 : decode cX3_flightReady 7 = .ok (.getfield 18, 3) := by decide +kernel
theorem dX3_flightReady_10 : decode cX3_flightReady 10 = .ok (.iload_n 1, 1) := by decide +kernel
theorem dX3_flightReady_11 : decode cX3_flightReady 11 = .ok (.iaload, 1) := by decide +kernel
theorem dX3_flightReady_12 : decode cX3_flightReady 12 = .ok (.iadd, 1) := by decide +kernel
theorem dX3_flightReady_13 : decode cX3_flightReady 13 = .ok (.aload_n 0, 1) := by decide +kernel
theorem dX3_flightReady_14 : decode cX3_flightReady 14 = .ok (.getfield 9, 3) := by decide +kernel
theorem dX3_flightReady_17 : decode cX3_flightReady 17 = .ok (.iconst 0, 1) := by decide +kernel
theorem dX3_flightReady_18 : decode cX3_flightReady 18 = .ok (.iaload, 1) := by decide +kernel
theorem dX3_flightReady_19 : decode cX3_flightReady 19 = .ok (.iadd, 1) := by decide +kernel
theorem dX3_flightReady_20 : decode cX3_flightReady 20 = .ok (.ireturn, 1) := by decide +kernel
theorem dX3_riderReady_0 : decode cX3_riderReady 0 = .ok (.aload_n 0, 1) := by decide +kernel
theorem dX3_riderReady_1 : decode cX3_riderReady 1 = .ok (.aload_n 0, 1) := by decide +kernel
theorem dX3_riderReady_2 : decode cX3_riderReady 2 = .ok (.getfield 27, 3) := by decide +kernel
theorem dX3_riderReady_5 : decode cX3_riderReady 5 = .ok (.iload_n 1, 1) := by decide +kernel
theorem dX3_riderReady_6 : decode cX3_riderReady 6 = .ok (.iaload, 1) := by decide +kernel
theorem dX3_riderReady_7 : decode cX3_riderReady 7 = .ok (.invokevirtual 52, 3) := by decide +kernel
theorem dX3_riderReady_10 : decode cX3_riderReady 10 = .ok (.ireturn, 1) := by decide +kernel
theorem dX3_allPeople_0 : decode cX3_allPeople 0 = .ok (.iconst 0, 1) := by decide +kernel
theorem dX3_allPeople_1 : decode cX3_allPeople 1 = .ok (.istore_n 1, 1) := by decide +kernel
theorem dX3_allPeople_2 : decode cX3_allPeople 2 = .ok (.iconst 0, 1) := by decide +kernel
theorem dX3_allPeople_3 : decode cX3_allPeople 3 = .ok (.istore_n 2, 1) := by decide +kernel
theorem dX3_allPeople_4 : decode cX3_allPeople 4 = .ok (.iload_n 2, 1) := by decide +kernel
theorem dX3_allPeople_5 : decode cX3_allPeople 5 = .ok (.aload_n 0, 1) := by decide +kernel
theorem dX3_allPeople_6 : decode cX3_allPeople 6 = .ok (.getfield 48, 3) := by decide +kernel
theorem dX3_allPeople_9 : decode cX3_allPeople 9 = .ok (.if_icmp .ge 18, 3) := by decide +kernel
theorem dX3_allPeople_12 : decode cX3_allPeople 12 = .ok (.iload_n 1, 1) := by decide +kernel
theorem dX3_allPeople_13 : decode cX3_allPeople 13 = .ok (.aload_n 0, 1) := by decide +kernel
theorem dX3_allPeople_14 : decode cX3_allPeople 14 = .ok (.getfield 36, 3) := by decide +kernel
theorem dX3_allPeople_17 : decode cX3_allPeople 17 = .ok (.iload_n 2, 1) := by decide +kernel
theorem dX3_allPeople_18 : decode cX3_allPeople 18 = .ok (.iaload, 1) := by decide +kernel
theorem dX3_allPeople_19 : decode cX3_allPeople 19 = .ok (.iadd, 1) := by decide +kernel
theorem dX3_allPeople_20 : decode cX3_allPeople 20 = .ok (.istore_n 1, 1) := by decide +kernel
theorem dX3_allPeople_21 : decode cX3_allPeople 21 = .ok (.iinc 2 1, 3) := by decide +kernel
theorem dX3_allPeople_24 : decode cX3_allPeople 24 = .ok (.goto (-20), 3) := by decide +kernel
theorem dX3_allPeople_27 : decode cX3_allPeople 27 = .ok (.iload_n 1, 1) := by decide +kernel
theorem dX3_allPeople_28 : decode cX3_allPeople 28 = .ok (.ireturn, 1) := by decide +kernel
theorem dX3_stopKey_0 : decode cX3_stopKey 0 = .ok (.aload_n 0, 1) := by decide +kernel
theorem dX3_stopKey_1 : decode cX3_stopKey 1 = .ok (.getfield 30, 3) := by decide +kernel
theorem dX3_stopKey_4 : decode cX3_stopKey 4 = .ok (.iload_n 1, 1) := by decide +kernel
theorem dX3_stopKey_5 : decode cX3_stopKey 5 = .ok (.iaload, 1) := by decide +kernel
theorem dX3_stopKey_6 : decode cX3_stopKey 6 = .ok (.bipush 100, 2) := by decide +kernel
theorem dX3_stopKey_8 : decode cX3_stopKey 8 = .ok (.imul, 1) := by decide +kernel
theorem dX3_stopKey_9 : decode cX3_stopKey 9 = .ok (.aload_n 0, 1) := by decide +kernel
theorem dX3_stopKey_10 : decode cX3_stopKey 10 = .ok (.getfield 33, 3) := by decide +kernel
theorem dX3_stopKey_13 : decode cX3_stopKey 13 = .ok (.iload_n 1, 1) := by decide +kernel
theorem dX3_stopKey_14 : decode cX3_stopKey 14 = .ok (.iaload, 1) := by decide +kernel
theorem dX3_stopKey_15 : decode cX3_stopKey 15 = .ok (.iadd, 1) := by decide +kernel
theorem dX3_stopKey_16 : decode cX3_stopKey 16 = .ok (.ireturn, 1) := by decide +kernel
theorem dX3_areaOfStop_0 : decode cX3_areaOfStop 0 = .ok (.iload_n 0, 1) := by decide +kernel
theorem dX3_areaOfStop_1 : decode cX3_areaOfStop 1 = .ok (.bipush 100, 2) := by decide +kernel
theorem dX3_areaOfStop_3 : decode cX3_areaOfStop 3 = .ok (.idiv, 1) := by decide +kernel
theorem dX3_areaOfStop_4 : decode cX3_areaOfStop 4 = .ok (.ireturn, 1) := by decide +kernel
theorem dX3_doorOfStop_0 : decode cX3_doorOfStop 0 = .ok (.iload_n 0, 1) := by decide +kernel
theorem dX3_doorOfStop_1 : decode cX3_doorOfStop 1 = .ok (.bipush 100, 2) := by decide +kernel
theorem dX3_doorOfStop_3 : decode cX3_doorOfStop 3 = .ok (.irem, 1) := by decide +kernel
theorem dX3_doorOfStop_4 : decode cX3_doorOfStop 4 = .ok (.ireturn, 1) := by decide +kernel
theorem dX4_init_0 : decode cX4_init 0 = .ok (.aload_n 0, 1) := by decide +kernel
theorem dX4_init_1 : decode cX4_init 1 = .ok (.invokespecial 3, 3) := by decide +kernel
theorem dX4_init_4 : decode cX4_init 4 = .ok (.aload_n 0, 1) := by decide +kernel
theorem dX4_init_5 : decode cX4_init 5 = .ok (.bipush 24, 2) := by decide +kernel
theorem dX4_init_7 : decode cX4_init 7 = .ok (.newarray .int, 2) := by decide +kernel
theorem dX4_init_9 : decode cX4_init 9 = .ok (.putfield 9, 3) := by decide +kernel
theorem dX4_init_12 : decode cX4_init 12 = .ok (.aload_n 0, 1) := by decide +kernel
theorem dX4_init_13 : decode cX4_init 13 = .ok (.bipush 24, 2) := by decide +kernel
theorem dX4_init_15 : decode cX4_init 15 = .ok (.newarray .int, 2) := by decide +kernel
theorem dX4_init_17 : decode cX4_init 17 = .ok (.putfield 15, 3) := by decide +kernel
theorem dX4_init_20 : decode cX4_init 20 = .ok (.aload_n 0, 1) := by decide +kernel
theorem dX4_init_21 : decode cX4_init 21 = .ok (.bipush 24, 2) := by decide +kernel
theorem dX4_init_23 : decode cX4_init 23 = .ok (.newarray .int, 2) := by decide +kernel
theorem dX4_init_25 : decode cX4_init 25 = .ok (.putfield 18, 3) := by decide +kernel
theorem dX4_init_28 : decode cX4_init 28 = .ok (.return_, 1) := by decide +kernel
theorem dX4_follow_0 : decode cX4_follow 0 = .ok (.aload_n 0, 1) := by decide +kernel
theorem dX4_follow_1 : decode cX4_follow 1 = .ok (.iconst 0, 1) := by decide +kernel
theorem dX4_follow_2 : decode cX4_follow 2 = .ok (.putfield 21, 3) := by decide +kernel
theorem dX4_follow_5 : decode cX4_follow 5 = .ok (.iconst 0, 1) := by decide +kernel
theorem dX4_follow_6 : decode cX4_follow 6 = .ok (.istore 4, 2) := by decide +kernel
theorem dX4_follow_8 : decode cX4_follow 8 = .ok (.iload 4, 2) := by decide +kernel
theorem dX4_follow_10 : decode cX4_follow 10 = .ok (.aload_n 1, 1) := by decide +kernel
theorem dX4_follow_11 : decode cX4_follow 11 = .ok (.getfield 25, 3) := by decide +kernel
theorem dX4_follow_14 : decode cX4_follow 14 = .ok (.if_icmp .ge 37, 3) := by decide +kernel
theorem dX4_follow_17 : decode cX4_follow 17 = .ok (.aload_n 2, 1) := by decide +kernel
theorem dX4_follow_18 : decode cX4_follow 18 = .ok (.getfield 30, 3) := by decide +kernel
theorem dX4_follow_21 : decode cX4_follow 21 = .ok (.iload 4, 2) := by decide +kernel
theorem dX4_follow_23 : decode cX4_follow 23 = .ok (.iaload, 1) := by decide +kernel
theorem dX4_follow_24 : decode cX4_follow 24 = .ok (.iload_n 3, 1) := by decide +kernel
theorem dX4_follow_25 : decode cX4_follow 25 = .ok (.if_icmp .ne 20, 3) := by decide +kernel
theorem dX4_follow_28 : decode cX4_follow 28 = .ok (.aload_n 0, 1) := by decide +kernel
theorem dX4_follow_29 : decode cX4_follow 29 = .ok (.aload_n 1, 1) := by decide +kernel
theorem dX4_follow_30 : decode cX4_follow 30 = .ok (.iload 4, 2) := by decide +kernel
theorem dX4_follow_32 : decode cX4_follow 32 = .ok (.invokevirtual 35, 3) := by decide +kernel
theorem dX4_follow_35 : decode cX4_follow 35 = .ok (.aload_n 1, 1) := by decide +kernel
theorem dX4_follow_36 : decode cX4_follow 36 = .ok (.getfield 39, 3) := by decide +kernel
theorem dX4_follow_39 : decode cX4_follow 39 = .ok (.iload 4, 2) := by decide +kernel
theorem dX4_follow_41 : decode cX4_follow 41 = .ok (.iaload, 1) := by decide +kernel
theorem dX4_follow_42 : decode cX4_follow 42 = .ok (.invokevirtual 40, 3) := by decide +kernel
theorem dX4_follow_45 : decode cX4_follow 45 = .ok (.iinc 4 1, 3) := by decide +kernel
theorem dX4_follow_48 : decode cX4_follow 48 = .ok (.goto (-40), 3) := by decide +kernel
theorem dX4_follow_51 : decode cX4_follow 51 = .ok (.aload_n 0, 1) := by decide +kernel
theorem dX4_follow_52 : decode cX4_follow 52 = .ok (.aload_n 1, 1) := by decide +kernel
theorem dX4_follow_53 : decode cX4_follow 53 = .ok (.getfield 44, 3) := by decide +kernel
theorem dX4_follow_56 : decode cX4_follow 56 = .ok (.iload_n 3, 1) := by decide +kernel
theorem dX4_follow_57 : decode cX4_follow 57 = .ok (.iaload, 1) := by decide +kernel
