theorem dX6_stop_19 : decode cX6_stop 19 = .ok (.iload_n 2, 1) := by decide +kernel
theorem dX6_stop_20 : decode cX6_stop 20 = .ok (.iconst 0, 1) := by decide +kernel
theorem dX6_stop_21 : decode cX6_stop 21 = .ok (.aload_n 0, 1) := by decide +kernel
theorem dX6_stop_22 : decode cX6_stop 22 = .ok (.getfield 82, 3) := by decide +kernel
theorem dX6_stop_25 : decode cX6_stop 25 = .ok (.iconst 1, 1) := by decide +kernel
theorem dX6_stop_26 : decode cX6_stop 26 = .ok (.isub, 1) := by decide +kernel
theorem dX6_stop_27 : decode cX6_stop 27 = .ok (.invokestatic 46, 3) := by decide +kernel
theorem dX6_stop_30 : decode cX6_stop 30 = .ok (.ifCond .ne 6, 3) := by decide +kernel
theorem dX6_stop_33 : decode cX6_stop 33 = .ok (.bipush (-101), 2) := by decide +kernel
theorem dX6_stop_35 : decode cX6_stop 35 = .ok (.ireturn, 1) := by decide +kernel
theorem dX6_stop_36 : decode cX6_stop 36 = .ok (.iload_n 3, 1) := by decide +kernel
theorem dX6_stop_37 : decode cX6_stop 37 = .ok (.tableswitch 70 0 3 #[31, 41, 51, 58], 31) := by decide +kernel
theorem dX6_stop_68 : decode cX6_stop 68 = .ok (.aload_n 0, 1) := by decide +kernel
theorem dX6_stop_69 : decode cX6_stop 69 = .ok (.getfield 40, 3) := by decide +kernel
theorem dX6_stop_72 : decode cX6_stop 72 = .ok (.iload_n 2, 1) := by decide +kernel
theorem dX6_stop_73 : decode cX6_stop 73 = .ok (.iaload, 1) := by decide +kernel
theorem dX6_stop_74 : decode cX6_stop 74 = .ok (.bipush 100, 2) := by decide +kernel
theorem dX6_stop_76 : decode cX6_stop 76 = .ok (.idiv, 1) := by decide +kernel
theorem dX6_stop_77 : decode cX6_stop 77 = .ok (.ireturn, 1) := by decide +kernel
theorem dX6_stop_78 : decode cX6_stop 78 = .ok (.aload_n 0, 1) := by decide +kernel
theorem dX6_stop_79 : decode cX6_stop 79 = .ok (.getfield 40, 3) := by decide +kernel
theorem dX6_stop_82 : decode cX6_stop 82 = .ok (.iload_n 2, 1) := by decide +kernel
theorem dX6_stop_83 : decode cX6_stop 83 = .ok (.iaload, 1) := by decide +kernel
theorem dX6_stop_84 : decode cX6_stop 84 = .ok (.bipush 100, 2) := by decide +kernel
theorem dX6_stop_86 : decode cX6_stop 86 = .ok (.irem, 1) := by decide +kernel
theorem dX6_stop_87 : decode cX6_stop 87 = .ok (.ireturn, 1) := by decide +kernel
theorem dX6_stop_88 : decode cX6_stop 88 = .ok (.aload_n 0, 1) := by decide +kernel
theorem dX6_stop_89 : decode cX6_stop 89 = .ok (.getfield 43, 3) := by decide +kernel
theorem dX6_stop_92 : decode cX6_stop 92 = .ok (.iload_n 2, 1) := by decide +kernel
theorem dX6_stop_93 : decode cX6_stop 93 = .ok (.iaload, 1) := by decide +kernel
theorem dX6_stop_94 : decode cX6_stop 94 = .ok (.ireturn, 1) := by decide +kernel
theorem dX6_stop_95 : decode cX6_stop 95 = .ok (.aload_n 0, 1) := by decide +kernel
theorem dX6_stop_96 : decode cX6_stop 96 = .ok (.iload_n 1, 1) := by decide +kernel
theorem dX6_stop_97 : decode cX6_stop 97 = .ok (.aload_n 0, 1) := by decide +kernel
theorem dX6_stop_98 : decode cX6_stop 98 = .ok (.getfield 40, 3) := by decide +kernel
theorem dX6_stop_101 : decode cX6_stop 101 = .ok (.iload_n 2, 1) := by decide +kernel
theorem dX6_stop_102 : decode cX6_stop 102 = .ok (.iaload, 1) := by decide +kernel
theorem dX6_stop_103 : decode cX6_stop 103 = .ok (.invokevirtual 151, 3) := by decide +kernel
theorem dX6_stop_106 : decode cX6_stop 106 = .ok (.ireturn, 1) := by decide +kernel
theorem dX6_stop_107 : decode cX6_stop 107 = .ok (.bipush (-102), 2) := by decide +kernel
theorem dX6_stop_109 : decode cX6_stop 109 = .ok (.ireturn, 1) := by decide +kernel
theorem dX6_allPeople_0 : decode cX6_allPeople 0 = .ok (.iconst 0, 1) := by decide +kernel
theorem dX6_allPeople_1 : decode cX6_allPeople 1 = .ok (.istore_n 1, 1) := by decide +kernel
theorem dX6_allPeople_2 : decode cX6_allPeople 2 = .ok (.iconst 0, 1) := by decide +kernel
theorem dX6_allPeople_3 : decode cX6_allPeople 3 = .ok (.istore_n 2, 1) := by decide +kernel
theorem dX6_allPeople_4 : decode cX6_allPeople 4 = .ok (.iload_n 2, 1) := by decide +kernel
theorem dX6_allPeople_5 : decode cX6_allPeople 5 = .ok (.bipush 6, 2) := by decide +kernel
theorem dX6_allPeople_7 : decode cX6_allPeople 7 = .ok (.if_icmp .ge 18, 3) := by decide +kernel
theorem dX6_allPeople_10 : decode cX6_allPeople 10 = .ok (.iload_n 1, 1) := by decide +kernel
theorem dX6_allPeople_11 : decode cX6_allPeople 11 = .ok (.aload_n 0, 1) := by decide +kernel
theorem dX6_allPeople_12 : decode cX6_allPeople 12 = .ok (.iload_n 2, 1) := by decide +kernel
theorem dX6_allPeople_13 : decode cX6_allPeople 13 = .ok (.iconst 0, 1) := by decide +kernel
theorem dX6_allPeople_14 : decode cX6_allPeople 14 = .ok (.invokevirtual 147, 3) := by decide +kernel
theorem dX6_allPeople_17 : decode cX6_allPeople 17 = .ok (.iadd, 1) := by decide +kernel
theorem dX6_allPeople_18 : decode cX6_allPeople 18 = .ok (.istore_n 1, 1) := by decide +kernel
theorem dX6_allPeople_19 : decode cX6_allPeople 19 = .ok (.iinc 2 1, 3) := by decide +kernel
theorem dX6_allPeople_22 : decode cX6_allPeople 22 = .ok (.goto (-18), 3) := by decide +kernel
theorem dX6_allPeople_25 : decode cX6_allPeople 25 = .ok (.iload_n 1, 1) := by decide +kernel
theorem dX6_allPeople_26 : decode cX6_allPeople 26 = .ok (.ireturn, 1) := by decide +kernel
theorem dX6_strandedRiders_0 : decode cX6_strandedRiders 0 = .ok (.iconst 0, 1) := by decide +kernel
theorem dX6_strandedRiders_1 : decode cX6_strandedRiders 1 = .ok (.istore_n 1, 1) := by decide +kernel
theorem dX6_strandedRiders_2 : decode cX6_strandedRiders 2 = .ok (.iconst 0, 1) := by decide +kernel
theorem dX6_strandedRiders_3 : decode cX6_strandedRiders 3 = .ok (.istore_n 2, 1) := by decide +kernel
theorem dX6_strandedRiders_4 : decode cX6_strandedRiders 4 = .ok (.iload_n 2, 1) := by decide +kernel
theorem dX6_strandedRiders_5 : decode cX6_strandedRiders 5 = .ok (.aload_n 0, 1) := by decide +kernel
theorem dX6_strandedRiders_6 : decode cX6_strandedRiders 6 = .ok (.getfield 7, 3) := by decide +kernel
theorem dX6_strandedRiders_9 : decode cX6_strandedRiders 9 = .ok (.bipush 33, 2) := by decide +kernel
theorem dX6_strandedRiders_11 : decode cX6_strandedRiders 11 = .ok (.iaload, 1) := by decide +kernel
theorem dX6_strandedRiders_12 : decode cX6_strandedRiders 12 = .ok (.if_icmp .ge 28, 3) := by decide +kernel
theorem dX6_strandedRiders_15 : decode cX6_strandedRiders 15 = .ok (.iload_n 1, 1) := by decide +kernel
theorem dX6_strandedRiders_16 : decode cX6_strandedRiders 16 = .ok (.aload_n 0, 1) := by decide +kernel
theorem dX6_strandedRiders_17 : decode cX6_strandedRiders 17 = .ok (.getfield 28, 3) := by decide +kernel
theorem dX6_strandedRiders_20 : decode cX6_strandedRiders 20 = .ok (.iload_n 2, 1) := by decide +kernel
theorem dX6_strandedRiders_21 : decode cX6_strandedRiders 21 = .ok (.iaload, 1) := by decide +kernel
theorem dX6_strandedRiders_22 : decode cX6_strandedRiders 22 = .ok (.bipush (-106), 2) := by decide +kernel
theorem dX6_strandedRiders_24 : decode cX6_strandedRiders 24 = .ok (.if_icmp .ne 7, 3) := by decide +kernel
theorem dX6_strandedRiders_27 : decode cX6_strandedRiders 27 = .ok (.iconst 1, 1) := by decide +kernel
theorem dX6_strandedRiders_28 : decode cX6_strandedRiders 28 = .ok (.goto 4, 3) := by decide +kernel
theorem dX6_strandedRiders_31 : decode cX6_strandedRiders 31 = .ok (.iconst 0, 1) := by decide +kernel
theorem dX6_strandedRiders_32 : decode cX6_strandedRiders 32 = .ok (.iadd, 1) := by decide +kernel
theorem dX6_strandedRiders_33 : decode cX6_strandedRiders 33 = .ok (.istore_n 1, 1) := by decide +kernel
theorem dX6_strandedRiders_34 : decode cX6_strandedRiders 34 = .ok (.iinc 2 1, 3) := by decide +kernel
theorem dX6_strandedRiders_37 : decode cX6_strandedRiders 37 = .ok (.goto (-33), 3) := by decide +kernel
theorem dX6_strandedRiders_40 : decode cX6_strandedRiders 40 = .ok (.iload_n 1, 1) := by decide +kernel
theorem dX6_strandedRiders_41 : decode cX6_strandedRiders 41 = .ok (.ireturn, 1) := by decide +kernel
theorem dX6_allFares_0 : decode cX6_allFares 0 = .ok (.iconst 0, 1) := by decide +kernel
theorem dX6_allFares_1 : decode cX6_allFares 1 = .ok (.istore_n 1, 1) := by decide +kernel
theorem dX6_allFares_2 : decode cX6_allFares 2 = .ok (.iconst 0, 1) := by decide +kernel
theorem dX6_allFares_3 : decode cX6_allFares 3 = .ok (.istore_n 2, 1) := by decide +kernel
theorem dX6_allFares_4 : decode cX6_allFares 4 = .ok (.iload_n 2, 1) := by decide +kernel
theorem dX6_allFares_5 : decode cX6_allFares 5 = .ok (.aload_n 0, 1) := by decide +kernel
theorem dX6_allFares_6 : decode cX6_allFares 6 = .ok (.getfield 7, 3) := by decide +kernel
theorem dX6_allFares_9 : decode cX6_allFares 9 = .ok (.bipush 33, 2) := by decide +kernel
theorem dX6_allFares_11 : decode cX6_allFares 11 = .ok (.iaload, 1) := by decide +kernel
theorem dX6_allFares_12 : decode cX6_allFares 12 = .ok (.if_icmp .ge 17, 3) := by decide +kernel
theorem dX6_allFares_15 : decode cX6_allFares 15 = .ok (.iload_n 1, 1) := by decide +kernel
theorem dX6_allFares_16 : decode cX6_allFares 16 = .ok (.aload_n 0, 1) := by decide +kernel
theorem dX6_allFares_17 : decode cX6_allFares 17 = .ok (.iload_n 2, 1) := by decide +kernel
theorem dX6_allFares_18 : decode cX6_allFares 18 = .ok (.invokevirtual 126, 3) := by decide +kernel
theorem dX6_allFares_21 : decode cX6_allFares 21 = .ok (.iadd, 1) := by decide +kernel
theorem dX6_allFares_22 : decode cX6_allFares 22 = .ok (.istore_n 1, 1) := by decide +kernel
theorem dX6_allFares_23 : decode cX6_allFares 23 = .ok (.iinc 2 1, 3) := by decide +kernel
theorem dX6_allFares_26 : decode cX6_allFares 26 = .ok (.goto (-22), 3) := by decide +kernel
theorem dX6_allFares_29 : decode cX6_allFares 29 = .ok (.iload_n 1, 1) := by decide +kernel
theorem dX6_allFares_30 : decode cX6_allFares 30 = .ok (.ireturn, 1) := by decide +kernel
theorem dX6_usedVans_0 : decode cX6_usedVans 0 = .ok (.iconst 0, 1) := by decide +kernel
theorem dX6_usedVans_1 : decode cX6_usedVans 1 = .ok (.istore_n 1, 1) := by decide +kernel
theorem dX6_usedVans_2 : decode cX6_usedVans 2 = .ok (.iconst 0, 1) := by decide +kernel
theorem dX6_usedVans_3 : decode cX6_usedVans 3 = .ok (.istore_n 2, 1) := by decide +kernel
theorem dX6_usedVans_4 : decode cX6_usedVans 4 = .ok (.iload_n 2, 1) := by decide +kernel
theorem dX6_usedVans_5 : decode cX6_usedVans 5 = .ok (.bipush 8, 2) := by decide +kernel
theorem dX6_usedVans_7 : decode cX6_usedVans 7 = .ok (.if_icmp .ge 26, 3) := by decide +kernel
theorem dX6_usedVans_10 : decode cX6_usedVans 10 = .ok (.iload_n 1, 1) := by decide +kernel
theorem dX6_usedVans_11 : decode cX6_usedVans 11 = .ok (.aload_n 0, 1) := by decide +kernel
theorem dX6_usedVans_12 : decode cX6_usedVans 12 = .ok (.getfield 37, 3) := by decide +kernel
theorem dX6_usedVans_15 : decode cX6_usedVans 15 = .ok (.iload_n 2, 1) := by decide +kernel
theorem dX6_usedVans_16 : decode cX6_usedVans 16 = .ok (.iaload, 1) := by decide +kernel
theorem dX6_usedVans_17 : decode cX6_usedVans 17 = .ok (.ifCond .eq 7, 3) := by decide +kernel
theorem dX6_usedVans_20 : decode cX6_usedVans 20 = .ok (.iconst 1, 1) := by decide +kernel
theorem dX6_usedVans_21 : decode cX6_usedVans 21 = .ok (.goto 4, 3) := by decide +kernel
theorem dX6_usedVans_24 : decode cX6_usedVans 24 = .ok (.iconst 0, 1) := by decide +kernel
theorem dX6_usedVans_25 : decode cX6_usedVans 25 = .ok (.iadd, 1) := by decide +kernel
theorem dX6_usedVans_26 : decode cX6_usedVans 26 = .ok (.istore_n 1, 1) := by decide +kernel
theorem dX6_usedVans_27 : decode cX6_usedVans 27 = .ok (.iinc 2 1, 3) := by decide +kernel
theorem dX6_usedVans_30 : decode cX6_usedVans 30 = .ok (.goto (-26), 3) := by decide +kernel
theorem dX6_usedVans_33 : decode cX6_usedVans 33 = .ok (.iload_n 1, 1) := by decide +kernel
theorem dX6_usedVans_34 : decode cX6_usedVans 34 = .ok (.ireturn, 1) := by decide +kernel
theorem dX6_allStops_0 : decode cX6_allStops 0 = .ok (.iconst 0, 1) := by decide +kernel
theorem dX6_allStops_1 : decode cX6_allStops 1 = .ok (.istore_n 1, 1) := by decide +kernel
theorem dX6_allStops_2 : decode cX6_allStops 2 = .ok (.iconst 0, 1) := by decide +kernel
theorem dX6_allStops_3 : decode cX6_allStops 3 = .ok (.istore_n 2, 1) := by decide +kernel
theorem dX6_allStops_4 : decode cX6_allStops 4 = .ok (.iload_n 2, 1) := by decide +kernel
theorem dX6_allStops_5 : decode cX6_allStops 5 = .ok (.bipush 8, 2) := by decide +kernel
theorem dX6_allStops_7 : decode cX6_allStops 7 = .ok (.if_icmp .ge 21, 3) := by decide +kernel
theorem dX6_allStops_10 : decode cX6_allStops 10 = .ok (.aload_n 0, 1) := by decide +kernel
theorem dX6_allStops_11 : decode cX6_allStops 11 = .ok (.iload_n 2, 1) := by decide +kernel
theorem dX6_allStops_12 : decode cX6_allStops 12 = .ok (.invokevirtual 88, 3) := by decide +kernel
theorem dX6_allStops_15 : decode cX6_allStops 15 = .ok (.iload_n 1, 1) := by decide +kernel
theorem dX6_allStops_16 : decode cX6_allStops 16 = .ok (.aload_n 0, 1) := by decide +kernel
theorem dX6_allStops_17 : decode cX6_allStops 17 = .ok (.getfield 82, 3) := by decide +kernel
theorem dX6_allStops_20 : decode cX6_allStops 20 = .ok (.iadd, 1) := by decide +kernel
theorem dX6_allStops_21 : decode cX6_allStops 21 = .ok (.istore_n 1, 1) := by decide +kernel
theorem dX6_allStops_22 : decode cX6_allStops 22 = .ok (.iinc 2 1, 3) := by decide +kernel
theorem dX6_allStops_25 : decode cX6_allStops 25 = .ok (.goto (-21), 3) := by decide +kernel
theorem dX6_allStops_28 : decode cX6_allStops 28 = .ok (.iload_n 1, 1) := by decide +kernel
theorem dX6_allStops_29 : decode cX6_allStops 29 = .ok (.ireturn, 1) := by decide +kernel
theorem dX6_count_0 : decode cX6_count 0 = .ok (.iload_n 1, 1) := by decide +kernel
theorem dX6_count_1 : decode cX6_count 1 = .ok (.iconst 0, 1) := by decide +kernel
theorem dX6_count_2 : decode cX6_count 2 = .ok (.iconst 4, 1) := by decide +kernel
theorem dX6_count_3 : decode cX6_count 3 = .ok (.invokestatic 46, 3) := by decide +kernel
theorem dX6_count_6 : decode cX6_count 6 = .ok (.ifCond .eq 10, 3) := by decide +kernel
theorem dX6_count_9 : decode cX6_count 9 = .ok (.aload_n 0, 1) := by decide +kernel
theorem dX6_count_10 : decode cX6_count 10 = .ok (.getfield 7, 3) := by decide +kernel
theorem dX6_count_13 : decode cX6_count 13 = .ok (.iload_n 1, 1) := by decide +kernel
theorem dX6_count_14 : decode cX6_count 14 = .ok (.iaload, 1) := by decide +kernel
theorem dX6_count_15 : decode cX6_count 15 = .ok (.ireturn, 1) := by decide +kernel
theorem dX6_count_16 : decode cX6_count 16 = .ok (.aload_n 0, 1) := by decide +kernel
theorem dX6_count_17 : decode cX6_count 17 = .ok (.invokevirtual 113, 3) := by decide +kernel
theorem dX6_count_20 : decode cX6_count 20 = .ok (.iload_n 1, 1) := by decide +kernel
theorem dX6_count_21 : decode cX6_count 21 = .ok (.tableswitch 117 5 15 #[59, 67, 72, 77, 82, 87, 92, 97, 102, 107, 112], 59) := by decide +kernel
theorem dX6_count_80 : decode cX6_count 80 = .ok (.aload_n 0, 1) := by decide +kernel
theorem dX6_count_81 : decode cX6_count 81 = .ok (.getfield 7, 3) := by decide +kernel
theorem dX6_count_84 : decode cX6_count 84 = .ok (.bipush 33, 2) := by decide +kernel
theorem dX6_count_86 : decode cX6_count 86 = .ok (.iaload, 1) := by decide +kernel
theorem dX6_count_87 : decode cX6_count 87 = .ok (.ireturn, 1) := by decide +kernel
theorem dX6_count_88 : decode cX6_count 88 = .ok (.aload_n 0, 1) := by decide +kernel
theorem dX6_count_89 : decode cX6_count 89 = .ok (.invokevirtual 154, 3) := by decide +kernel
theorem dX6_count_92 : decode cX6_count 92 = .ok (.ireturn, 1) := by decide +kernel
theorem dX6_count_93 : decode cX6_count 93 = .ok (.aload_n 0, 1) := by decide +kernel
theorem dX6_count_94 : decode cX6_count 94 = .ok (.invokevirtual 157, 3) := by decide +kernel
theorem dX6_count_97 : decode cX6_count 97 = .ok (.ireturn, 1) := by decide +kernel
theorem dX6_count_98 : decode cX6_count 98 = .ok (.aload_n 0, 1) := by decide +kernel
theorem dX6_count_99 : decode cX6_count 99 = .ok (.invokevirtual 116, 3) := by decide +kernel
theorem dX6_count_102 : decode cX6_count 102 = .ok (.ireturn, 1) := by decide +kernel
theorem dX6_count_103 : decode cX6_count 103 = .ok (.aload_n 0, 1) := by decide +kernel
theorem dX6_count_104 : decode cX6_count 104 = .ok (.invokevirtual 160, 3) := by decide +kernel
theorem dX6_count_107 : decode cX6_count 107 = .ok (.ireturn, 1) := by decide +kernel
theorem dX6_count_108 : decode cX6_count 108 = .ok (.aload_n 0, 1) := by decide +kernel
theorem dX6_count_109 : decode cX6_count 109 = .ok (.invokevirtual 163, 3) := by decide +kernel
theorem dX6_count_112 : decode cX6_count 112 = .ok (.ireturn, 1) := by decide +kernel
theorem dX6_count_113 : decode cX6_count 113 = .ok (.aload_n 0, 1) := by decide +kernel
theorem dX6_count_114 : decode cX6_count 114 = .ok (.invokevirtual 166, 3) := by decide +kernel
theorem dX6_count_117 : decode cX6_count 117 = .ok (.ireturn, 1) := by decide +kernel
theorem dX6_count_118 : decode cX6_count 118 = .ok (.aload_n 0, 1) := by decide +kernel
theorem dX6_count_119 : decode cX6_count 119 = .ok (.invokevirtual 169, 3) := by decide +kernel
theorem dX6_count_122 : decode cX6_count 122 = .ok (.ireturn, 1) := by decide +kernel
theorem dX6_count_123 : decode cX6_count 123 = .ok (.aload_n 0, 1) := by decide +kernel
theorem dX6_count_124 : decode cX6_count 124 = .ok (.invokevirtual 172, 3) := by decide +kernel
theorem dX6_count_127 : decode cX6_count 127 = .ok (.ireturn, 1) := by decide +kernel
theorem dX6_count_128 : decode cX6_count 128 = .ok (.aload_n 0, 1) := by decide +kernel
theorem dX6_count_129 : decode cX6_count 129 = .ok (.getfield 175, 3) := by decide +kernel
theorem dX6_count_132 : decode cX6_count 132 = .ok (.ireturn, 1) := by decide +kernel
theorem dX6_count_133 : decode cX6_count 133 = .ok (.aload_n 0, 1) := by decide +kernel
theorem dX6_count_134 : decode cX6_count 134 = .ok (.getfield 50, 3) := by decide +kernel
theorem dX6_count_137 : decode cX6_count 137 = .ok (.ireturn, 1) := by decide +kernel
theorem dX6_count_138 : decode cX6_count 138 = .ok (.bipush (-102), 2) := by decide +kernel
theorem dX6_count_140 : decode cX6_count 140 = .ok (.ireturn, 1) := by decide +kernel
theorem dX6_kerb_0 : decode cX6_kerb 0 = .ok (.iload_n 1, 1) := by decide +kernel
theorem dX6_kerb_1 : decode cX6_kerb 1 = .ok (.iconst 0, 1) := by decide +kernel
theorem dX6_kerb_2 : decode cX6_kerb 2 = .ok (.sipush 3000, 3) := by decide +kernel
theorem dX6_kerb_5 : decode cX6_kerb 5 = .ok (.invokestatic 46, 3) := by decide +kernel
theorem dX6_kerb_8 : decode cX6_kerb 8 = .ok (.ifCond .ne 6, 3) := by decide +kernel
theorem dX6_kerb_11 : decode cX6_kerb 11 = .ok (.bipush (-102), 2) := by decide +kernel
theorem dX6_kerb_13 : decode cX6_kerb 13 = .ok (.ireturn, 1) := by decide +kernel
theorem dX6_kerb_14 : decode cX6_kerb 14 = .ok (.aload_n 0, 1) := by decide +kernel
theorem dX6_kerb_15 : decode cX6_kerb 15 = .ok (.invokevirtual 113, 3) := by decide +kernel
theorem dX6_kerb_18 : decode cX6_kerb 18 = .ok (.iconst 0, 1) := by decide +kernel
theorem dX6_kerb_19 : decode cX6_kerb 19 = .ok (.istore_n 2, 1) := by decide +kernel
theorem dX6_kerb_20 : decode cX6_kerb 20 = .ok (.iconst 0, 1) := by decide +kernel
theorem dX6_kerb_21 : decode cX6_kerb 21 = .ok (.istore_n 3, 1) := by decide +kernel
theorem dX6_kerb_22 : decode cX6_kerb 22 = .ok (.iload_n 3, 1) := by decide +kernel
theorem dX6_kerb_23 : decode cX6_kerb 23 = .ok (.aload_n 0, 1) := by decide +kernel
theorem dX6_kerb_24 : decode cX6_kerb 24 = .ok (.getfield 7, 3) := by decide +kernel
theorem dX6_kerb_27 : decode cX6_kerb 27 = .ok (.bipush 33, 2) := by decide +kernel
theorem dX6_kerb_29 : decode cX6_kerb 29 = .ok (.iaload, 1) := by decide +kernel
theorem dX6_kerb_30 : decode cX6_kerb 30 = .ok (.if_icmp .ge 91, 3) := by decide +kernel
theorem dX6_kerb_33 : decode cX6_kerb 33 = .ok (.iload_n 1, 1) := by decide +kernel
theorem dX6_kerb_34 : decode cX6_kerb 34 = .ok (.aload_n 0, 1) := by decide +kernel
theorem dX6_kerb_35 : decode cX6_kerb 35 = .ok (.iload_n 3, 1) := by decide +kernel
theorem dX6_kerb_36 : decode cX6_kerb 36 = .ok (.invokevirtual 65, 3) := by decide +kernel
theorem dX6_kerb_39 : decode cX6_kerb 39 = .ok (.isub, 1) := by decide +kernel
theorem dX6_kerb_40 : decode cX6_kerb 40 = .ok (.istore 4, 2) := by decide +kernel
theorem dX6_kerb_42 : decode cX6_kerb 42 = .ok (.aload_n 0, 1) := by decide +kernel
theorem dX6_kerb_43 : decode cX6_kerb 43 = .ok (.getfield 28, 3) := by decide +kernel
theorem dX6_kerb_46 : decode cX6_kerb 46 = .ok (.iload_n 3, 1) := by decide +kernel
theorem dX6_kerb_47 : decode cX6_kerb 47 = .ok (.iaload, 1) := by decide +kernel
theorem dX6_kerb_48 : decode cX6_kerb 48 = .ok (.istore 5, 2) := by decide +kernel
theorem dX6_kerb_50 : decode cX6_kerb 50 = .ok (.iload 4, 2) := by decide +kernel
theorem dX6_kerb_52 : decode cX6_kerb 52 = .ok (.ifCond .lt 42, 3) := by decide +kernel
theorem dX6_kerb_55 : decode cX6_kerb 55 = .ok (.iload 5, 2) := by decide +kernel
theorem dX6_kerb_57 : decode cX6_kerb 57 = .ok (.bipush (-106), 2) := by decide +kernel
theorem dX6_kerb_59 : decode cX6_kerb 59 = .ok (.if_icmp .ne 17, 3) := by decide +kernel
theorem dX6_kerb_62 : decode cX6_kerb 62 = .ok (.iload 4, 2) := by decide +kernel
theorem dX6_kerb_64 : decode cX6_kerb 64 = .ok (.aload_n 0, 1) := by decide +kernel
theorem dX6_kerb_65 : decode cX6_kerb 65 = .ok (.getfield 7, 3) := by decide +kernel
theorem dX6_kerb_68 : decode cX6_kerb 68 = .ok (.iconst 1, 1) := by decide +kernel
theorem dX6_kerb_69 : decode cX6_kerb 69 = .ok (.iaload, 1) := by decide +kernel
theorem dX6_kerb_70 : decode cX6_kerb 70 = .ok (.if_icmp .gt 24, 3) := by decide +kernel
theorem dX6_kerb_73 : decode cX6_kerb 73 = .ok (.goto 17, 3) := by decide +kernel
theorem dX6_kerb_76 : decode cX6_kerb 76 = .ok (.aload_n 0, 1) := by decide +kernel
theorem dX6_kerb_77 : decode cX6_kerb 77 = .ok (.getfield 7, 3) := by decide +kernel
theorem dX6_kerb_80 : decode cX6_kerb 80 = .ok (.bipush 17, 2) := by decide +kernel
theorem dX6_kerb_82 : decode cX6_kerb 82 = .ok (.iload 5, 2) := by decide +kernel
theorem dX6_kerb_84 : decode cX6_kerb 84 = .ok (.iadd, 1) := by decide +kernel
theorem dX6_kerb_85 : decode cX6_kerb 85 = .ok (.iaload, 1) := by decide +kernel
theorem dX6_kerb_86 : decode cX6_kerb 86 = .ok (.iload_n 1, 1) := by decide +kernel
theorem dX6_kerb_87 : decode cX6_kerb 87 = .ok (.if_icmp .le 7, 3) := by decide +kernel
theorem dX6_kerb_90 : decode cX6_kerb 90 = .ok (.iconst 1, 1) := by decide +kernel
theorem dX6_kerb_91 : decode cX6_kerb 91 = .ok (.goto 4, 3) := by decide +kernel
theorem dX6_kerb_94 : decode cX6_kerb 94 = .ok (.iconst 0, 1) := by decide +kernel
theorem dX6_kerb_95 : decode cX6_kerb 95 = .ok (.istore 6, 2) := by decide +kernel
theorem dX6_kerb_97 : decode cX6_kerb 97 = .ok (.iload_n 2, 1) := by decide +kernel
theorem dX6_kerb_98 : decode cX6_kerb 98 = .ok (.iload 6, 2) := by decide +kernel
theorem dX6_kerb_100 : decode cX6_kerb 100 = .ok (.ifCond .eq 12, 3) := by decide +kernel
theorem dX6_kerb_103 : decode cX6_kerb 103 = .ok (.aload_n 0, 1) := by decide +kernel
theorem dX6_kerb_104 : decode cX6_kerb 104 = .ok (.iload_n 3, 1) := by decide +kernel
theorem dX6_kerb_105 : decode cX6_kerb 105 = .ok (.iconst 3, 1) := by decide +kernel
theorem dX6_kerb_106 : decode cX6_kerb 106 = .ok (.invokevirtual 57, 3) := by decide +kernel
theorem dX6_kerb_109 : decode cX6_kerb 109 = .ok (.goto 4, 3) := by decide +kernel
theorem dX6_kerb_112 : decode cX6_kerb 112 = .ok (.iconst 0, 1) := by decide +kernel
theorem dX6_kerb_113 : decode cX6_kerb 113 = .ok (.iadd, 1) := by decide +kernel
theorem dX6_kerb_114 : decode cX6_kerb 114 = .ok (.istore_n 2, 1) := by decide +kernel
theorem dX6_kerb_115 : decode cX6_kerb 115 = .ok (.iinc 3 1, 3) := by decide +kernel
theorem dX6_kerb_118 : decode cX6_kerb 118 = .ok (.goto (-96), 3) := by decide +kernel
theorem dX6_kerb_121 : decode cX6_kerb 121 = .ok (.iload_n 2, 1) := by decide +kernel
theorem dX6_kerb_122 : decode cX6_kerb 122 = .ok (.ireturn, 1) := by decide +kernel
theorem dX6_ifDelayed_0 : decode cX6_ifDelayed 0 = .ok (.iload_n 1, 1) := by decide +kernel
theorem dX6_ifDelayed_1 : decode cX6_ifDelayed 1 = .ok (.invokestatic 106, 3) := by decide +kernel
theorem dX6_ifDelayed_4 : decode cX6_ifDelayed 4 = .ok (.ifCond .ne 6, 3) := by decide +kernel
theorem dX6_ifDelayed_7 : decode cX6_ifDelayed 7 = .ok (.bipush (-101), 2) := by decide +kernel
theorem dX6_ifDelayed_9 : decode cX6_ifDelayed 9 = .ok (.ireturn, 1) := by decide +kernel
theorem dX6_ifDelayed_10 : decode cX6_ifDelayed 10 = .ok (.iload_n 2, 1) := by decide +kernel
theorem dX6_ifDelayed_11 : decode cX6_ifDelayed 11 = .ok (.bipush (-30), 2) := by decide +kernel
theorem dX6_ifDelayed_13 : decode cX6_ifDelayed 13 = .ok (.sipush 300, 3) := by decide +kernel
theorem dX6_ifDelayed_16 : decode cX6_ifDelayed 16 = .ok (.invokestatic 46, 3) := by decide +kernel
theorem dX6_ifDelayed_19 : decode cX6_ifDelayed 19 = .ok (.ifCond .eq 12, 3) := by decide +kernel
theorem dX6_ifDelayed_22 : decode cX6_ifDelayed 22 = .ok (.iload_n 3, 1) := by decide +kernel
theorem dX6_ifDelayed_23 : decode cX6_ifDelayed 23 = .ok (.iconst 0, 1) := by decide +kernel
theorem dX6_ifDelayed_24 : decode cX6_ifDelayed 24 = .ok (.iconst 2, 1) := by decide +kernel
theorem dX6_ifDelayed_25 : decode cX6_ifDelayed 25 = .ok (.invokestatic 46, 3) := by decide +kernel
theorem dX6_ifDelayed_28 : decode cX6_ifDelayed 28 = .ok (.ifCond .ne 6, 3) := by decide +kernel
theorem dX6_ifDelayed_31 : decode cX6_ifDelayed 31 = .ok (.bipush (-102), 2) := by decide +kernel
theorem dX6_ifDelayed_33 : decode cX6_ifDelayed 33 = .ok (.ireturn, 1) := by decide +kernel
theorem dX6_ifDelayed_34 : decode cX6_ifDelayed 34 = .ok (.aload_n 0, 1) := by decide +kernel
theorem dX6_ifDelayed_35 : decode cX6_ifDelayed 35 = .ok (.getfield 7, 3) := by decide +kernel
theorem dX6_ifDelayed_38 : decode cX6_ifDelayed 38 = .ok (.bipush 11, 2) := by decide +kernel
theorem dX6_ifDelayed_40 : decode cX6_ifDelayed 40 = .ok (.iload_n 1, 1) := by decide +kernel
theorem dX6_ifDelayed_41 : decode cX6_ifDelayed 41 = .ok (.iadd, 1) := by decide +kernel
theorem dX6_ifDelayed_42 : decode cX6_ifDelayed 42 = .ok (.iaload, 1) := by decide +kernel
theorem dX6_ifDelayed_43 : decode cX6_ifDelayed 43 = .ok (.istore 4, 2) := by decide +kernel
theorem dX6_ifDelayed_45 : decode cX6_ifDelayed 45 = .ok (.aload_n 0, 1) := by decide +kernel
theorem dX6_ifDelayed_46 : decode cX6_ifDelayed 46 = .ok (.getfield 7, 3) := by decide +kernel
theorem dX6_ifDelayed_49 : decode cX6_ifDelayed 49 = .ok (.bipush 11, 2) := by decide +kernel
theorem dX6_ifDelayed_51 : decode cX6_ifDelayed 51 = .ok (.iload_n 1, 1) := by decide +kernel
theorem dX6_ifDelayed_52 : decode cX6_ifDelayed 52 = .ok (.iadd, 1) := by decide +kernel
theorem dX6_ifDelayed_53 : decode cX6_ifDelayed 53 = .ok (.iload_n 2, 1) := by decide +kernel
theorem dX6_ifDelayed_54 : decode cX6_ifDelayed 54 = .ok (.iastore, 1) := by decide +kernel
theorem dX6_ifDelayed_55 : decode cX6_ifDelayed 55 = .ok (.aload_n 0, 1) := by decide +kernel
theorem dX6_ifDelayed_56 : decode cX6_ifDelayed 56 = .ok (.invokevirtual 113, 3) := by decide +kernel
theorem dX6_ifDelayed_59 : decode cX6_ifDelayed 59 = .ok (.iload_n 3, 1) := by decide +kernel
theorem dX6_ifDelayed_60 : decode cX6_ifDelayed 60 = .ok (.ifCond .ne 10, 3) := by decide +kernel
theorem dX6_ifDelayed_63 : decode cX6_ifDelayed 63 = .ok (.aload_n 0, 1) := by decide +kernel
theorem dX6_ifDelayed_64 : decode cX6_ifDelayed 64 = .ok (.invokevirtual 116, 3) := by decide +kernel
theorem dX6_ifDelayed_67 : decode cX6_ifDelayed 67 = .ok (.goto 19, 3) := by decide +kernel
theorem dX6_ifDelayed_70 : decode cX6_ifDelayed 70 = .ok (.iload_n 3, 1) := by decide +kernel
theorem dX6_ifDelayed_71 : decode cX6_ifDelayed 71 = .ok (.iconst 1, 1) := by decide +kernel
theorem dX6_ifDelayed_72 : decode cX6_ifDelayed 72 = .ok (.if_icmp .ne 10, 3) := by decide +kernel
theorem dX6_ifDelayed_75 : decode cX6_ifDelayed 75 = .ok (.aload_n 0, 1) := by decide +kernel
theorem dX6_ifDelayed_76 : decode cX6_ifDelayed 76 = .ok (.invokevirtual 160, 3) := by decide +kernel
theorem dX6_ifDelayed_79 : decode cX6_ifDelayed 79 = .ok (.goto 7, 3) := by decide +kernel
theorem dX6_ifDelayed_82 : decode cX6_ifDelayed 82 = .ok (.aload_n 0, 1) := by decide +kernel
theorem dX6_ifDelayed_83 : decode cX6_ifDelayed 83 = .ok (.invokevirtual 172, 3) := by decide +kernel
theorem dX6_ifDelayed_86 : decode cX6_ifDelayed 86 = .ok (.istore 5, 2) := by decide +kernel
theorem dX6_ifDelayed_88 : decode cX6_ifDelayed 88 = .ok (.aload_n 0, 1) := by decide +kernel
theorem dX6_ifDelayed_89 : decode cX6_ifDelayed 89 = .ok (.getfield 7, 3) := by decide +kernel
theorem dX6_ifDelayed_92 : decode cX6_ifDelayed 92 = .ok (.bipush 11, 2) := by decide +kernel
theorem dX6_ifDelayed_94 : decode cX6_ifDelayed 94 = .ok (.iload_n 1, 1) := by decide +kernel
theorem dX6_ifDelayed_95 : decode cX6_ifDelayed 95 = .ok (.iadd, 1) := by decide +kernel
theorem dX6_ifDelayed_96 : decode cX6_ifDelayed 96 = .ok (.iload 4, 2) := by decide +kernel
theorem dX6_ifDelayed_98 : decode cX6_ifDelayed 98 = .ok (.iastore, 1) := by decide +kernel
theorem dX6_ifDelayed_99 : decode cX6_ifDelayed 99 = .ok (.iload 5, 2) := by decide +kernel
theorem dX6_ifDelayed_101 : decode cX6_ifDelayed 101 = .ok (.ireturn, 1) := by decide +kernel
theorem dX6_mostDelay_0 : decode cX6_mostDelay 0 = .ok (.iload_n 1, 1) := by decide +kernel
theorem dX6_mostDelay_1 : decode cX6_mostDelay 1 = .ok (.invokestatic 106, 3) := by decide +kernel
theorem dX6_mostDelay_4 : decode cX6_mostDelay 4 = .ok (.ifCond .ne 6, 3) := by decide +kernel
theorem dX6_mostDelay_7 : decode cX6_mostDelay 7 = .ok (.bipush (-101), 2) := by decide +kernel
theorem dX6_mostDelay_9 : decode cX6_mostDelay 9 = .ok (.ireturn, 1) := by decide +kernel
theorem dX6_mostDelay_10 : decode cX6_mostDelay 10 = .ok (.aload_n 0, 1) := by decide +kernel
theorem dX6_mostDelay_11 : decode cX6_mostDelay 11 = .ok (.invokevirtual 113, 3) := by decide +kernel
theorem dX6_mostDelay_14 : decode cX6_mostDelay 14 = .ok (.aload_n 0, 1) := by decide +kernel
theorem dX6_mostDelay_15 : decode cX6_mostDelay 15 = .ok (.invokevirtual 116, 3) := by decide +kernel
theorem dX6_mostDelay_18 : decode cX6_mostDelay 18 = .ok (.istore_n 2, 1) := by decide +kernel
theorem dX6_mostDelay_19 : decode cX6_mostDelay 19 = .ok (.aload_n 0, 1) := by decide +kernel
theorem dX6_mostDelay_20 : decode cX6_mostDelay 20 = .ok (.getfield 7, 3) := by decide +kernel
theorem dX6_mostDelay_23 : decode cX6_mostDelay 23 = .ok (.bipush 11, 2) := by decide +kernel
theorem dX6_mostDelay_25 : decode cX6_mostDelay 25 = .ok (.iload_n 1, 1) := by decide +kernel
theorem dX6_mostDelay_26 : decode cX6_mostDelay 26 = .ok (.iadd, 1) := by decide +kernel
theorem dX6_mostDelay_27 : decode cX6_mostDelay 27 = .ok (.iaload, 1) := by decide +kernel
theorem dX6_mostDelay_28 : decode cX6_mostDelay 28 = .ok (.istore_n 3, 1) := by decide +kernel
theorem dX6_mostDelay_29 : decode cX6_mostDelay 29 = .ok (.iload_n 3, 1) := by decide +kernel
theorem dX6_mostDelay_30 : decode cX6_mostDelay 30 = .ok (.istore 4, 2) := by decide +kernel
theorem dX6_mostDelay_32 : decode cX6_mostDelay 32 = .ok (.bipush (-30), 2) := by decide +kernel
theorem dX6_mostDelay_34 : decode cX6_mostDelay 34 = .ok (.istore 5, 2) := by decide +kernel
theorem dX6_mostDelay_36 : decode cX6_mostDelay 36 = .ok (.iload 5, 2) := by decide +kernel
theorem dX6_mostDelay_38 : decode cX6_mostDelay 38 = .ok (.sipush 300, 3) := by decide +kernel
theorem dX6_mostDelay_41 : decode cX6_mostDelay 41 = .ok (.if_icmp .gt 48, 3) := by decide +kernel
theorem dX6_mostDelay_44 : decode cX6_mostDelay 44 = .ok (.aload_n 0, 1) := by decide +kernel
theorem dX6_mostDelay_45 : decode cX6_mostDelay 45 = .ok (.getfield 7, 3) := by decide +kernel
theorem dX6_mostDelay_48 : decode cX6_mostDelay 48 = .ok (.bipush 11, 2) := by decide +kernel
theorem dX6_mostDelay_50 : decode cX6_mostDelay 50 = .ok (.iload_n 1, 1) := by decide +kernel
theorem dX6_mostDelay_51 : decode cX6_mostDelay 51 = .ok (.iadd, 1) := by decide +kernel
theorem dX6_mostDelay_52 : decode cX6_mostDelay 52 = .ok (.iload 5, 2) := by decide +kernel
theorem dX6_mostDelay_54 : decode cX6_mostDelay 54 = .ok (.iastore, 1) := by decide +kernel
theorem dX6_mostDelay_55 : decode cX6_mostDelay 55 = .ok (.aload_n 0, 1) := by decide +kernel
theorem dX6_mostDelay_56 : decode cX6_mostDelay 56 = .ok (.invokevirtual 113, 3) := by decide +kernel
theorem dX6_mostDelay_59 : decode cX6_mostDelay 59 = .ok (.iload 5, 2) := by decide +kernel
theorem dX6_mostDelay_61 : decode cX6_mostDelay 61 = .ok (.iload 4, 2) := by decide +kernel
theorem dX6_mostDelay_63 : decode cX6_mostDelay 63 = .ok (.if_icmp .le 16, 3) := by decide +kernel
theorem dX6_mostDelay_66 : decode cX6_mostDelay 66 = .ok (.aload_n 0, 1) := by decide +kernel
theorem dX6_mostDelay_67 : decode cX6_mostDelay 67 = .ok (.invokevirtual 116, 3) := by decide +kernel
theorem dX6_mostDelay_70 : decode cX6_mostDelay 70 = .ok (.iload_n 2, 1) := by decide +kernel
theorem dX6_mostDelay_71 : decode cX6_mostDelay 71 = .ok (.if_icmp .gt 8, 3) := by decide +kernel
theorem dX6_mostDelay_74 : decode cX6_mostDelay 74 = .ok (.iload 5, 2) := by decide +kernel
theorem dX6_mostDelay_76 : decode cX6_mostDelay 76 = .ok (.goto 5, 3) := by decide +kernel
theorem dX6_mostDelay_79 : decode cX6_mostDelay 79 = .ok (.iload 4, 2) := by decide +kernel
theorem dX6_mostDelay_81 : decode cX6_mostDelay 81 = .ok (.istore 4, 2) := by decide +kernel
theorem dX6_mostDelay_83 : decode cX6_mostDelay 83 = .ok (.iinc 5 1, 3) := by decide +kernel
theorem dX6_mostDelay_86 : decode cX6_mostDelay 86 = .ok (.goto (-50), 3) := by decide +kernel
theorem dX6_mostDelay_89 : decode cX6_mostDelay 89 = .ok (.aload_n 0, 1) := by decide +kernel
theorem dX6_mostDelay_90 : decode cX6_mostDelay 90 = .ok (.getfield 7, 3) := by decide +kernel
theorem dX6_mostDelay_93 : decode cX6_mostDelay 93 = .ok (.bipush 11, 2) := by decide +kernel
theorem dX6_mostDelay_95 : decode cX6_mostDelay 95 = .ok (.iload_n 1, 1) := by decide +kernel
theorem dX6_mostDelay_96 : decode cX6_mostDelay 96 = .ok (.iadd, 1) := by decide +kernel
theorem dX6_mostDelay_97 : decode cX6_mostDelay 97 = .ok (.iload_n 3, 1) := by decide +kernel
theorem dX6_mostDelay_98 : decode cX6_mostDelay 98 = .ok (.iastore, 1) := by decide +kernel
theorem dX6_mostDelay_99 : decode cX6_mostDelay 99 = .ok (.iload 4, 2) := by decide +kernel
theorem dX6_mostDelay_101 : decode cX6_mostDelay 101 = .ok (.ireturn, 1) := by decide +kernel
theorem dX6_bestMinute_0 : decode cX6_bestMinute 0 = .ok (.iload_n 1, 1) := by decide +kernel
theorem dX6_bestMinute_1 : decode cX6_bestMinute 1 = .ok (.invokestatic 110, 3) := by decide +kernel
theorem dX6_bestMinute_4 : decode cX6_bestMinute 4 = .ok (.ifCond .ne 6, 3) := by decide +kernel
theorem dX6_bestMinute_7 : decode cX6_bestMinute 7 = .ok (.bipush (-101), 2) := by decide +kernel
theorem dX6_bestMinute_9 : decode cX6_bestMinute 9 = .ok (.ireturn, 1) := by decide +kernel
theorem dX6_bestMinute_10 : decode cX6_bestMinute 10 = .ok (.aload_n 0, 1) := by decide +kernel
theorem dX6_bestMinute_11 : decode cX6_bestMinute 11 = .ok (.getfield 7, 3) := by decide +kernel
theorem dX6_bestMinute_14 : decode cX6_bestMinute 14 = .ok (.bipush 17, 2) := by decide +kernel
theorem dX6_bestMinute_16 : decode cX6_bestMinute 16 = .ok (.iload_n 1, 1) := by decide +kernel
theorem dX6_bestMinute_17 : decode cX6_bestMinute 17 = .ok (.iadd, 1) := by decide +kernel
theorem dX6_bestMinute_18 : decode cX6_bestMinute 18 = .ok (.iaload, 1) := by decide +kernel
theorem dX6_bestMinute_19 : decode cX6_bestMinute 19 = .ok (.istore_n 2, 1) := by decide +kernel
theorem dX6_bestMinute_20 : decode cX6_bestMinute 20 = .ok (.iconst 0, 1) := by decide +kernel
theorem dX6_bestMinute_21 : decode cX6_bestMinute 21 = .ok (.istore_n 3, 1) := by decide +kernel
theorem dX6_bestMinute_22 : decode cX6_bestMinute 22 = .ok (.iconst 0, 1) := by decide +kernel
theorem dX6_bestMinute_23 : decode cX6_bestMinute 23 = .ok (.istore 4, 2) := by decide +kernel
theorem dX6_bestMinute_25 : decode cX6_bestMinute 25 = .ok (.iconst 0, 1) := by decide +kernel
theorem dX6_bestMinute_26 : decode cX6_bestMinute 26 = .ok (.istore 5, 2) := by decide +kernel
theorem dX6_bestMinute_28 : decode cX6_bestMinute 28 = .ok (.iconst 0, 1) := by decide +kernel
theorem dX6_bestMinute_29 : decode cX6_bestMinute 29 = .ok (.istore 6, 2) := by decide +kernel
theorem dX6_bestMinute_31 : decode cX6_bestMinute 31 = .ok (.iload 6, 2) := by decide +kernel
theorem dX6_bestMinute_33 : decode cX6_bestMinute 33 = .ok (.sipush 1500, 3) := by decide +kernel
theorem dX6_bestMinute_36 : decode cX6_bestMinute 36 = .ok (.if_icmp .gt 73, 3) := by decide +kernel
theorem dX6_bestMinute_39 : decode cX6_bestMinute 39 = .ok (.aload_n 0, 1) := by decide +kernel
theorem dX6_bestMinute_40 : decode cX6_bestMinute 40 = .ok (.getfield 7, 3) := by decide +kernel
theorem dX6_bestMinute_43 : decode cX6_bestMinute 43 = .ok (.bipush 17, 2) := by decide +kernel
theorem dX6_bestMinute_45 : decode cX6_bestMinute 45 = .ok (.iload_n 1, 1) := by decide +kernel
theorem dX6_bestMinute_46 : decode cX6_bestMinute 46 = .ok (.iadd, 1) := by decide +kernel
theorem dX6_bestMinute_47 : decode cX6_bestMinute 47 = .ok (.iload 6, 2) := by decide +kernel
theorem dX6_bestMinute_49 : decode cX6_bestMinute 49 = .ok (.iastore, 1) := by decide +kernel
theorem dX6_bestMinute_50 : decode cX6_bestMinute 50 = .ok (.aload_n 0, 1) := by decide +kernel
theorem dX6_bestMinute_51 : decode cX6_bestMinute 51 = .ok (.invokevirtual 113, 3) := by decide +kernel
theorem dX6_bestMinute_54 : decode cX6_bestMinute 54 = .ok (.aload_n 0, 1) := by decide +kernel
theorem dX6_bestMinute_55 : decode cX6_bestMinute 55 = .ok (.invokevirtual 116, 3) := by decide +kernel
theorem dX6_bestMinute_58 : decode cX6_bestMinute 58 = .ok (.istore 7, 2) := by decide +kernel
theorem dX6_bestMinute_60 : decode cX6_bestMinute 60 = .ok (.aload_n 0, 1) := by decide +kernel
theorem dX6_bestMinute_61 : decode cX6_bestMinute 61 = .ok (.invokevirtual 160, 3) := by decide +kernel
theorem dX6_bestMinute_64 : decode cX6_bestMinute 64 = .ok (.istore 8, 2) := by decide +kernel
theorem dX6_bestMinute_66 : decode cX6_bestMinute 66 = .ok (.iload 6, 2) := by decide +kernel
theorem dX6_bestMinute_68 : decode cX6_bestMinute 68 = .ok (.ifCond .eq 24, 3) := by decide +kernel
theorem dX6_bestMinute_71 : decode cX6_bestMinute 71 = .ok (.iload 7, 2) := by decide +kernel
theorem dX6_bestMinute_73 : decode cX6_bestMinute 73 = .ok (.iload 4, 2) := by decide +kernel
theorem dX6_bestMinute_75 : decode cX6_bestMinute 75 = .ok (.if_icmp .lt 17, 3) := by decide +kernel
theorem dX6_bestMinute_78 : decode cX6_bestMinute 78 = .ok (.iload 7, 2) := by decide +kernel
theorem dX6_bestMinute_80 : decode cX6_bestMinute 80 = .ok (.iload 4, 2) := by decide +kernel
theorem dX6_bestMinute_82 : decode cX6_bestMinute 82 = .ok (.if_icmp .ne 21, 3) := by decide +kernel
theorem dX6_bestMinute_85 : decode cX6_bestMinute 85 = .ok (.iload 8, 2) := by decide +kernel
theorem dX6_bestMinute_87 : decode cX6_bestMinute 87 = .ok (.iload 5, 2) := by decide +kernel
theorem dX6_bestMinute_89 : decode cX6_bestMinute 89 = .ok (.if_icmp .ge 14, 3) := by decide +kernel
theorem dX6_bestMinute_92 : decode cX6_bestMinute 92 = .ok (.iload 6, 2) := by decide +kernel
theorem dX6_bestMinute_94 : decode cX6_bestMinute 94 = .ok (.istore_n 3, 1) := by decide +kernel
theorem dX6_bestMinute_95 : decode cX6_bestMinute 95 = .ok (.iload 7, 2) := by decide +kernel
theorem dX6_bestMinute_97 : decode cX6_bestMinute 97 = .ok (.istore 4, 2) := by decide +kernel
theorem dX6_bestMinute_99 : decode cX6_bestMinute 99 = .ok (.iload 8, 2) := by decide +kernel
theorem dX6_bestMinute_101 : decode cX6_bestMinute 101 = .ok (.istore 5, 2) := by decide +kernel
theorem dX6_bestMinute_103 : decode cX6_bestMinute 103 = .ok (.iinc 6 5, 3) := by decide +kernel
theorem dX6_bestMinute_106 : decode cX6_bestMinute 106 = .ok (.goto (-75), 3) := by decide +kernel
theorem dX6_bestMinute_109 : decode cX6_bestMinute 109 = .ok (.aload_n 0, 1) := by decide +kernel
theorem dX6_bestMinute_110 : decode cX6_bestMinute 110 = .ok (.getfield 7, 3) := by decide +kernel
theorem dX6_bestMinute_113 : decode cX6_bestMinute 113 = .ok (.bipush 17, 2) := by decide +kernel
theorem dX6_bestMinute_115 : decode cX6_bestMinute 115 = .ok (.iload_n 1, 1) := by decide +kernel
theorem dX6_bestMinute_116 : decode cX6_bestMinute 116 = .ok (.iadd, 1) := by decide +kernel
theorem dX6_bestMinute_117 : decode cX6_bestMinute 117 = .ok (.iload_n 2, 1) := by decide +kernel
theorem dX6_bestMinute_118 : decode cX6_bestMinute 118 = .ok (.iastore, 1) := by decide +kernel
theorem dX6_bestMinute_119 : decode cX6_bestMinute 119 = .ok (.iload_n 3, 1) := by decide +kernel
theorem dX6_bestMinute_120 : decode cX6_bestMinute 120 = .ok (.ireturn, 1) := by decide +kernel
theorem dX6_fullest_0 : decode cX6_fullest 0 = .ok (.aload_n 0, 1) := by decide +kernel
theorem dX6_fullest_1 : decode cX6_fullest 1 = .ok (.invokevirtual 113, 3) := by decide +kernel
theorem dX6_fullest_4 : decode cX6_fullest 4 = .ok (.bipush (-106), 2) := by decide +kernel
theorem dX6_fullest_6 : decode cX6_fullest 6 = .ok (.istore_n 1, 1) := by decide +kernel
theorem dX6_fullest_7 : decode cX6_fullest 7 = .ok (.iconst 0, 1) := by decide +kernel
theorem dX6_fullest_8 : decode cX6_fullest 8 = .ok (.istore_n 2, 1) := by decide +kernel
theorem dX6_fullest_9 : decode cX6_fullest 9 = .ok (.iload_n 2, 1) := by decide +kernel
theorem dX6_fullest_10 : decode cX6_fullest 10 = .ok (.bipush 8, 2) := by decide +kernel
theorem dX6_fullest_12 : decode cX6_fullest 12 = .ok (.if_icmp .ge 52, 3) := by decide +kernel
theorem dX6_fullest_15 : decode cX6_fullest 15 = .ok (.aload_n 0, 1) := by decide +kernel
theorem dX6_fullest_16 : decode cX6_fullest 16 = .ok (.iload_n 2, 1) := by decide +kernel
theorem dX6_fullest_17 : decode cX6_fullest 17 = .ok (.invokevirtual 138, 3) := by decide +kernel
theorem dX6_fullest_20 : decode cX6_fullest 20 = .ok (.ifCond .le 26, 3) := by decide +kernel
theorem dX6_fullest_23 : decode cX6_fullest 23 = .ok (.iload_n 1, 1) := by decide +kernel
theorem dX6_fullest_24 : decode cX6_fullest 24 = .ok (.bipush (-106), 2) := by decide +kernel
theorem dX6_fullest_26 : decode cX6_fullest 26 = .ok (.if_icmp .eq 16, 3) := by decide +kernel
theorem dX6_fullest_29 : decode cX6_fullest 29 = .ok (.aload_n 0, 1) := by decide +kernel
theorem dX6_fullest_30 : decode cX6_fullest 30 = .ok (.iload_n 2, 1) := by decide +kernel
theorem dX6_fullest_31 : decode cX6_fullest 31 = .ok (.invokevirtual 138, 3) := by decide +kernel
theorem dX6_fullest_34 : decode cX6_fullest 34 = .ok (.aload_n 0, 1) := by decide +kernel
theorem dX6_fullest_35 : decode cX6_fullest 35 = .ok (.iload_n 1, 1) := by decide +kernel
theorem dX6_fullest_36 : decode cX6_fullest 36 = .ok (.invokevirtual 138, 3) := by decide +kernel
theorem dX6_fullest_39 : decode cX6_fullest 39 = .ok (.if_icmp .le 7, 3) := by decide +kernel
theorem dX6_fullest_42 : decode cX6_fullest 42 = .ok (.iconst 1, 1) := by decide +kernel
theorem dX6_fullest_43 : decode cX6_fullest 43 = .ok (.goto 4, 3) := by decide +kernel
theorem dX6_fullest_46 : decode cX6_fullest 46 = .ok (.iconst 0, 1) := by decide +kernel
theorem dX6_fullest_47 : decode cX6_fullest 47 = .ok (.istore_n 3, 1) := by decide +kernel
theorem dX6_fullest_48 : decode cX6_fullest 48 = .ok (.iload_n 3, 1) := by decide +kernel
theorem dX6_fullest_49 : decode cX6_fullest 49 = .ok (.ifCond .eq 7, 3) := by decide +kernel
theorem dX6_fullest_52 : decode cX6_fullest 52 = .ok (.iload_n 2, 1) := by decide +kernel
theorem dX6_fullest_53 : decode cX6_fullest 53 = .ok (.goto 4, 3) := by decide +kernel
theorem dX6_fullest_56 : decode cX6_fullest 56 = .ok (.iload_n 1, 1) := by decide +kernel
theorem dX6_fullest_57 : decode cX6_fullest 57 = .ok (.istore_n 1, 1) := by decide +kernel
theorem dX6_fullest_58 : decode cX6_fullest 58 = .ok (.iinc 2 1, 3) := by decide +kernel
theorem dX6_fullest_61 : decode cX6_fullest 61 = .ok (.goto (-52), 3) := by decide +kernel
theorem dX6_fullest_64 : decode cX6_fullest 64 = .ok (.iload_n 1, 1) := by decide +kernel
theorem dX6_fullest_65 : decode cX6_fullest 65 = .ok (.ireturn, 1) := by decide +kernel
theorem dX6_codeAt_0 : decode cX6_codeAt 0 = .ok (.lload_n 0, 1) := by decide +kernel
theorem dX6_codeAt_1 : decode cX6_codeAt 1 = .ok (.bipush 8, 2) := by decide +kernel
theorem dX6_codeAt_3 : decode cX6_codeAt 3 = .ok (.iload_n 2, 1) := by decide +kernel
theorem dX6_codeAt_4 : decode cX6_codeAt 4 = .ok (.imul, 1) := by decide +kernel
theorem dX6_codeAt_5 : decode cX6_codeAt 5 = .ok (.lushr, 1) := by decide +kernel
theorem dX6_codeAt_6 : decode cX6_codeAt 6 = .ok (.ldc2_w 178, 3) := by decide +kernel
theorem dX6_codeAt_9 : decode cX6_codeAt 9 = .ok (.land, 1) := by decide +kernel
theorem dX6_codeAt_10 : decode cX6_codeAt 10 = .ok (.l2i, 1) := by decide +kernel
theorem dX6_codeAt_11 : decode cX6_codeAt 11 = .ok (.ireturn, 1) := by decide +kernel
theorem dX6_charactersIn_0 : decode cX6_charactersIn 0 = .ok (.iconst 0, 1) := by decide +kernel
theorem dX6_charactersIn_1 : decode cX6_charactersIn 1 = .ok (.istore_n 2, 1) := by decide +kernel
theorem dX6_charactersIn_2 : decode cX6_charactersIn 2 = .ok (.iload_n 2, 1) := by decide +kernel
theorem dX6_charactersIn_3 : decode cX6_charactersIn 3 = .ok (.bipush 8, 2) := by decide +kernel
theorem dX6_charactersIn_5 : decode cX6_charactersIn 5 = .ok (.if_icmp .ge 17, 3) := by decide +kernel
theorem dX6_charactersIn_8 : decode cX6_charactersIn 8 = .ok (.lload_n 0, 1) := by decide +kernel
theorem dX6_charactersIn_9 : decode cX6_charactersIn 9 = .ok (.iload_n 2, 1) := by decide +kernel
theorem dX6_charactersIn_10 : decode cX6_charactersIn 10 = .ok (.invokestatic 180, 3) := by decide +kernel
theorem dX6_charactersIn_13 : decode cX6_charactersIn 13 = .ok (.ifCond .eq 9, 3) := by decide +kernel
theorem dX6_charactersIn_16 : decode cX6_charactersIn 16 = .ok (.iinc 2 1, 3) := by decide +kernel
theorem dX6_charactersIn_19 : decode cX6_charactersIn 19 = .ok (.goto (-17), 3) := by decide +kernel
theorem dX6_charactersIn_22 : decode cX6_charactersIn 22 = .ok (.iload_n 2, 1) := by decide +kernel
theorem dX6_charactersIn_23 : decode cX6_charactersIn 23 = .ok (.bipush 8, 2) := by decide +kernel
theorem dX6_charactersIn_25 : decode cX6_charactersIn 25 = .ok (.if_icmp .eq 14, 3) := by decide +kernel
theorem dX6_charactersIn_28 : decode cX6_charactersIn 28 = .ok (.lload_n 0, 1) := by decide +kernel
theorem dX6_charactersIn_29 : decode cX6_charactersIn 29 = .ok (.bipush 8, 2) := by decide +kernel
theorem dX6_charactersIn_31 : decode cX6_charactersIn 31 = .ok (.iload_n 2, 1) := by decide +kernel
theorem dX6_charactersIn_32 : decode cX6_charactersIn 32 = .ok (.imul, 1) := by decide +kernel
theorem dX6_charactersIn_33 : decode cX6_charactersIn 33 = .ok (.lushr, 1) := by decide +kernel
theorem dX6_charactersIn_34 : decode cX6_charactersIn 34 = .ok (.lconst 0, 1) := by decide +kernel
theorem dX6_charactersIn_35 : decode cX6_charactersIn 35 = .ok (.lcmp, 1) := by decide +kernel
theorem dX6_charactersIn_36 : decode cX6_charactersIn 36 = .ok (.ifCond .ne 7, 3) := by decide +kernel
theorem dX6_charactersIn_39 : decode cX6_charactersIn 39 = .ok (.iconst 1, 1) := by decide +kernel
theorem dX6_charactersIn_40 : decode cX6_charactersIn 40 = .ok (.goto 4, 3) := by decide +kernel
theorem dX6_charactersIn_43 : decode cX6_charactersIn 43 = .ok (.iconst 0, 1) := by decide +kernel
theorem dX6_charactersIn_44 : decode cX6_charactersIn 44 = .ok (.istore_n 3, 1) := by decide +kernel
theorem dX6_charactersIn_45 : decode cX6_charactersIn 45 = .ok (.iconst 0, 1) := by decide +kernel
theorem dX6_charactersIn_46 : decode cX6_charactersIn 46 = .ok (.istore 4, 2) := by decide +kernel
theorem dX6_charactersIn_48 : decode cX6_charactersIn 48 = .ok (.iload 4, 2) := by decide +kernel
theorem dX6_charactersIn_50 : decode cX6_charactersIn 50 = .ok (.iload_n 2, 1) := by decide +kernel
theorem dX6_charactersIn_51 : decode cX6_charactersIn 51 = .ok (.if_icmp .ge 35, 3) := by decide +kernel
theorem dX6_charactersIn_54 : decode cX6_charactersIn 54 = .ok (.iload_n 3, 1) := by decide +kernel
theorem dX6_charactersIn_55 : decode cX6_charactersIn 55 = .ok (.ifCond .eq 23, 3) := by decide +kernel
theorem dX6_charactersIn_58 : decode cX6_charactersIn 58 = .ok (.lload_n 0, 1) := by decide +kernel
theorem dX6_charactersIn_59 : decode cX6_charactersIn 59 = .ok (.iload 4, 2) := by decide +kernel
theorem dX6_charactersIn_61 : decode cX6_charactersIn 61 = .ok (.invokestatic 180, 3) := by decide +kernel
theorem dX6_charactersIn_64 : decode cX6_charactersIn 64 = .ok (.bipush 33, 2) := by decide +kernel
theorem dX6_charactersIn_66 : decode cX6_charactersIn 66 = .ok (.bipush 126, 2) := by decide +kernel
theorem dX6_charactersIn_68 : decode cX6_charactersIn 68 = .ok (.invokestatic 46, 3) := by decide +kernel
theorem dX6_charactersIn_71 : decode cX6_charactersIn 71 = .ok (.ifCond .eq 7, 3) := by decide +kernel
theorem dX6_charactersIn_74 : decode cX6_charactersIn 74 = .ok (.iconst 1, 1) := by decide +kernel
theorem dX6_charactersIn_75 : decode cX6_charactersIn 75 = .ok (.goto 4, 3) := by decide +kernel
theorem dX6_charactersIn_78 : decode cX6_charactersIn 78 = .ok (.iconst 0, 1) := by decide +kernel
theorem dX6_charactersIn_79 : decode cX6_charactersIn 79 = .ok (.istore_n 3, 1) := by decide +kernel
theorem dX6_charactersIn_80 : decode cX6_charactersIn 80 = .ok (.iinc 4 1, 3) := by decide +kernel
theorem dX6_charactersIn_83 : decode cX6_charactersIn 83 = .ok (.goto (-35), 3) := by decide +kernel
theorem dX6_charactersIn_86 : decode cX6_charactersIn 86 = .ok (.iload_n 3, 1) := by decide +kernel
theorem dX6_charactersIn_87 : decode cX6_charactersIn 87 = .ok (.ifCond .eq 7, 3) := by decide +kernel
theorem dX6_charactersIn_90 : decode cX6_charactersIn 90 = .ok (.iload_n 2, 1) := by decide +kernel
theorem dX6_charactersIn_91 : decode cX6_charactersIn 91 = .ok (.goto 4, 3) := by decide +kernel
theorem dX6_charactersIn_94 : decode cX6_charactersIn 94 = .ok (.iconst 0, 1) := by decide +kernel
theorem dX6_charactersIn_95 : decode cX6_charactersIn 95 = .ok (.ireturn, 1) := by decide +kernel
theorem dX6_put_0 : decode cX6_put 0 = .ok (.lload_n 1, 1) := by decide +kernel
theorem dX6_put_1 : decode cX6_put 1 = .ok (.invokestatic 184, 3) := by decide +kernel
theorem dX6_put_4 : decode cX6_put 4 = .ok (.istore_n 3, 1) := by decide +kernel
theorem dX6_put_5 : decode cX6_put 5 = .ok (.iload_n 3, 1) := by decide +kernel
theorem dX6_put_6 : decode cX6_put 6 = .ok (.ifCond .ne 6, 3) := by decide +kernel
theorem dX6_put_9 : decode cX6_put 9 = .ok (.bipush (-102), 2) := by decide +kernel
theorem dX6_put_11 : decode cX6_put 11 = .ok (.ireturn, 1) := by decide +kernel
theorem dX6_put_12 : decode cX6_put 12 = .ok (.aload_n 0, 1) := by decide +kernel
theorem dX6_put_13 : decode cX6_put 13 = .ok (.getfield 175, 3) := by decide +kernel
theorem dX6_put_16 : decode cX6_put 16 = .ok (.iload_n 3, 1) := by decide +kernel
theorem dX6_put_17 : decode cX6_put 17 = .ok (.iadd, 1) := by decide +kernel
theorem dX6_put_18 : decode cX6_put 18 = .ok (.bipush 60, 2) := by decide +kernel
theorem dX6_put_20 : decode cX6_put 20 = .ok (.if_icmp .le 6, 3) := by decide +kernel
theorem dX6_put_23 : decode cX6_put 23 = .ok (.bipush (-104), 2) := by decide +kernel
theorem dX6_put_25 : decode cX6_put 25 = .ok (.ireturn, 1) := by decide +kernel
theorem dX6_put_26 : decode cX6_put 26 = .ok (.iload_n 3, 1) := by decide +kernel
theorem dX6_put_27 : decode cX6_put 27 = .ok (.iconst 1, 1) := by decide +kernel
theorem dX6_put_28 : decode cX6_put 28 = .ok (.isub, 1) := by decide +kernel
theorem dX6_put_29 : decode cX6_put 29 = .ok (.istore 4, 2) := by decide +kernel
theorem dX6_put_31 : decode cX6_put 31 = .ok (.iload 4, 2) := by decide +kernel
theorem dX6_put_33 : decode cX6_put 33 = .ok (.ifCond .lt 34, 3) := by decide +kernel
theorem dX6_put_36 : decode cX6_put 36 = .ok (.aload_n 0, 1) := by decide +kernel
theorem dX6_put_37 : decode cX6_put 37 = .ok (.getfield 22, 3) := by decide +kernel
theorem dX6_put_40 : decode cX6_put 40 = .ok (.aload_n 0, 1) := by decide +kernel
theorem dX6_put_41 : decode cX6_put 41 = .ok (.getfield 175, 3) := by decide +kernel
theorem dX6_put_44 : decode cX6_put 44 = .ok (.lload_n 1, 1) := by decide +kernel
theorem dX6_put_45 : decode cX6_put 45 = .ok (.iload 4, 2) := by decide +kernel
theorem dX6_put_47 : decode cX6_put 47 = .ok (.invokestatic 180, 3) := by decide +kernel
theorem dX6_put_50 : decode cX6_put 50 = .ok (.iastore, 1) := by decide +kernel
theorem dX6_put_51 : decode cX6_put 51 = .ok (.aload_n 0, 1) := by decide +kernel
theorem dX6_put_52 : decode cX6_put 52 = .ok (.dup, 1) := by decide +kernel
theorem dX6_put_53 : decode cX6_put 53 = .ok (.getfield 175, 3) := by decide +kernel
theorem dX6_put_56 : decode cX6_put 56 = .ok (.iconst 1, 1) := by decide +kernel
theorem dX6_put_57 : decode cX6_put 57 = .ok (.iadd, 1) := by decide +kernel
theorem dX6_put_58 : decode cX6_put 58 = .ok (.putfield 175, 3) := by decide +kernel
theorem dX6_put_61 : decode cX6_put 61 = .ok (.iinc 4 (-1), 3) := by decide +kernel
theorem dX6_put_64 : decode cX6_put 64 = .ok (.goto (-33), 3) := by decide +kernel
theorem dX6_put_67 : decode cX6_put 67 = .ok (.aload_n 0, 1) := by decide +kernel
theorem dX6_put_68 : decode cX6_put 68 = .ok (.getfield 175, 3) := by decide +kernel
theorem dX6_put_71 : decode cX6_put 71 = .ok (.ireturn, 1) := by decide +kernel
theorem dX6_wipe_0 : decode cX6_wipe 0 = .ok (.aload_n 0, 1) := by decide +kernel
theorem dX6_wipe_1 : decode cX6_wipe 1 = .ok (.getfield 175, 3) := by decide +kernel
theorem dX6_wipe_4 : decode cX6_wipe 4 = .ok (.istore_n 1, 1) := by decide +kernel
theorem dX6_wipe_5 : decode cX6_wipe 5 = .ok (.aload_n 0, 1) := by decide +kernel
theorem dX6_wipe_6 : decode cX6_wipe 6 = .ok (.iconst 0, 1) := by decide +kernel
theorem dX6_wipe_7 : decode cX6_wipe 7 = .ok (.putfield 175, 3) := by decide +kernel
theorem dX6_wipe_10 : decode cX6_wipe 10 = .ok (.iload_n 1, 1) := by decide +kernel
theorem dX6_wipe_11 : decode cX6_wipe 11 = .ok (.ireturn, 1) := by decide +kernel
theorem dX6_next_0 : decode cX6_next 0 = .ok (.aload_n 0, 1) := by decide +kernel
theorem dX6_next_1 : decode cX6_next 1 = .ok (.getfield 188, 3) := by decide +kernel
theorem dX6_next_4 : decode cX6_next 4 = .ok (.aload_n 0, 1) := by decide +kernel
theorem dX6_next_5 : decode cX6_next 5 = .ok (.getfield 175, 3) := by decide +kernel
theorem dX6_next_8 : decode cX6_next 8 = .ok (.if_icmp .ge 15, 3) := by decide +kernel
theorem dX6_next_11 : decode cX6_next 11 = .ok (.aload_n 0, 1) := by decide +kernel
theorem dX6_next_12 : decode cX6_next 12 = .ok (.getfield 22, 3) := by decide +kernel
theorem dX6_next_15 : decode cX6_next 15 = .ok (.aload_n 0, 1) := by decide +kernel
theorem dX6_next_16 : decode cX6_next 16 = .ok (.getfield 188, 3) := by decide +kernel
theorem dX6_next_19 : decode cX6_next 19 = .ok (.iaload, 1) := by decide +kernel
theorem dX6_next_20 : decode cX6_next 20 = .ok (.goto 4, 3) := by decide +kernel
theorem dX6_next_23 : decode cX6_next 23 = .ok (.iconst 0, 1) := by decide +kernel
theorem dX6_next_24 : decode cX6_next 24 = .ok (.ireturn, 1) := by decide +kernel
theorem dX6_readsSign_0 : decode cX6_readsSign 0 = .ok (.aload_n 0, 1) := by decide +kernel
theorem dX6_readsSign_1 : decode cX6_readsSign 1 = .ok (.invokevirtual 191, 3) := by decide +kernel
theorem dX6_readsSign_4 : decode cX6_readsSign 4 = .ok (.iload_n 2, 1) := by decide +kernel
theorem dX6_readsSign_5 : decode cX6_readsSign 5 = .ok (.iload_n 3, 1) := by decide +kernel
theorem dX6_readsSign_6 : decode cX6_readsSign 6 = .ok (.invokestatic 46, 3) := by decide +kernel
theorem dX6_readsSign_9 : decode cX6_readsSign 9 = .ok (.istore 4, 2) := by decide +kernel
theorem dX6_readsSign_11 : decode cX6_readsSign 11 = .ok (.aload_n 0, 1) := by decide +kernel
theorem dX6_readsSign_12 : decode cX6_readsSign 12 = .ok (.getfield 25, 3) := by decide +kernel
theorem dX6_readsSign_15 : decode cX6_readsSign 15 = .ok (.iload_n 1, 1) := by decide +kernel
theorem dX6_readsSign_16 : decode cX6_readsSign 16 = .ok (.iload 4, 2) := by decide +kernel
theorem dX6_readsSign_18 : decode cX6_readsSign 18 = .ok (.ifCond .eq 12, 3) := by decide +kernel
theorem dX6_readsSign_21 : decode cX6_readsSign 21 = .ok (.aload_n 0, 1) := by decide +kernel
theorem dX6_readsSign_22 : decode cX6_readsSign 22 = .ok (.invokevirtual 191, 3) := by decide +kernel
theorem dX6_readsSign_25 : decode cX6_readsSign 25 = .ok (.iload_n 2, 1) := by decide +kernel
theorem dX6_readsSign_26 : decode cX6_readsSign 26 = .ok (.isub, 1) := by decide +kernel
theorem dX6_readsSign_27 : decode cX6_readsSign 27 = .ok (.goto 9, 3) := by decide +kernel
theorem dX6_readsSign_30 : decode cX6_readsSign 30 = .ok (.aload_n 0, 1) := by decide +kernel
theorem dX6_readsSign_31 : decode cX6_readsSign 31 = .ok (.getfield 25, 3) := by decide +kernel
theorem dX6_readsSign_34 : decode cX6_readsSign 34 = .ok (.iload_n 1, 1) := by decide +kernel
theorem dX6_readsSign_35 : decode cX6_readsSign 35 = .ok (.iaload, 1) := by decide +kernel
theorem dX6_readsSign_36 : decode cX6_readsSign 36 = .ok (.iastore, 1) := by decide +kernel
theorem dX6_readsSign_37 : decode cX6_readsSign 37 = .ok (.aload_n 0, 1) := by decide +kernel
theorem dX6_readsSign_38 : decode cX6_readsSign 38 = .ok (.dup, 1) := by decide +kernel
theorem dX6_readsSign_39 : decode cX6_readsSign 39 = .ok (.getfield 188, 3) := by decide +kernel
theorem dX6_readsSign_42 : decode cX6_readsSign 42 = .ok (.iload 4, 2) := by decide +kernel
theorem dX6_readsSign_44 : decode cX6_readsSign 44 = .ok (.ifCond .eq 7, 3) := by decide +kernel
theorem dX6_readsSign_47 : decode cX6_readsSign 47 = .ok (.iconst 1, 1) := by decide +kernel
theorem dX6_readsSign_48 : decode cX6_readsSign 48 = .ok (.goto 4, 3) := by decide +kernel
theorem dX6_readsSign_51 : decode cX6_readsSign 51 = .ok (.iconst 0, 1) := by decide +kernel
theorem dX6_readsSign_52 : decode cX6_readsSign 52 = .ok (.iadd, 1) := by decide +kernel
theorem dX6_readsSign_53 : decode cX6_readsSign 53 = .ok (.putfield 188, 3) := by decide +kernel
theorem dX6_readsSign_56 : decode cX6_readsSign 56 = .ok (.iload 4, 2) := by decide +kernel
theorem dX6_readsSign_58 : decode cX6_readsSign 58 = .ok (.ireturn, 1) := by decide +kernel
theorem dX6_readsRider_0 : decode cX6_readsRider 0 = .ok (.aload_n 0, 1) := by decide +kernel
theorem dX6_readsRider_1 : decode cX6_readsRider 1 = .ok (.iconst 0, 1) := by decide +kernel
theorem dX6_readsRider_2 : decode cX6_readsRider 2 = .ok (.bipush 48, 2) := by decide +kernel
theorem dX6_readsRider_4 : decode cX6_readsRider 4 = .ok (.bipush 53, 2) := by decide +kernel
theorem dX6_readsRider_6 : decode cX6_readsRider 6 = .ok (.invokevirtual 194, 3) := by decide +kernel
theorem dX6_readsRider_9 : decode cX6_readsRider 9 = .ok (.ifCond .eq 27, 3) := by decide +kernel
theorem dX6_readsRider_12 : decode cX6_readsRider 12 = .ok (.aload_n 0, 1) := by decide +kernel
theorem dX6_readsRider_13 : decode cX6_readsRider 13 = .ok (.iconst 1, 1) := by decide +kernel
theorem dX6_readsRider_14 : decode cX6_readsRider 14 = .ok (.bipush 97, 2) := by decide +kernel
theorem dX6_readsRider_16 : decode cX6_readsRider 16 = .ok (.bipush 102, 2) := by decide +kernel
theorem dX6_readsRider_18 : decode cX6_readsRider 18 = .ok (.invokevirtual 194, 3) := by decide +kernel
theorem dX6_readsRider_21 : decode cX6_readsRider 21 = .ok (.ifCond .eq 15, 3) := by decide +kernel
theorem dX6_readsRider_24 : decode cX6_readsRider 24 = .ok (.aload_n 0, 1) := by decide +kernel
theorem dX6_readsRider_25 : decode cX6_readsRider 25 = .ok (.iconst 2, 1) := by decide +kernel
theorem dX6_readsRider_26 : decode cX6_readsRider 26 = .ok (.bipush 48, 2) := by decide +kernel
theorem dX6_readsRider_28 : decode cX6_readsRider 28 = .ok (.bipush 57, 2) := by decide +kernel
theorem dX6_readsRider_30 : decode cX6_readsRider 30 = .ok (.invokevirtual 194, 3) := by decide +kernel
theorem dX6_readsRider_33 : decode cX6_readsRider 33 = .ok (.ifCond .ne 5, 3) := by decide +kernel
theorem dX6_readsRider_36 : decode cX6_readsRider 36 = .ok (.iconst 0, 1) := by decide +kernel
theorem dX6_readsRider_37 : decode cX6_readsRider 37 = .ok (.ireturn, 1) := by decide +kernel
theorem dX6_readsRider_38 : decode cX6_readsRider 38 = .ok (.aload_n 0, 1) := by decide +kernel
theorem dX6_readsRider_39 : decode cX6_readsRider 39 = .ok (.getfield 25, 3) := by decide +kernel
theorem dX6_readsRider_42 : decode cX6_readsRider 42 = .ok (.iconst 2, 1) := by decide +kernel
theorem dX6_readsRider_43 : decode cX6_readsRider 43 = .ok (.iaload, 1) := by decide +kernel
theorem dX6_readsRider_44 : decode cX6_readsRider 44 = .ok (.ifCond .le 50, 3) := by decide +kernel
theorem dX6_readsRider_47 : decode cX6_readsRider 47 = .ok (.aload_n 0, 1) := by decide +kernel
theorem dX6_readsRider_48 : decode cX6_readsRider 48 = .ok (.invokevirtual 191, 3) := by decide +kernel
theorem dX6_readsRider_51 : decode cX6_readsRider 51 = .ok (.bipush 48, 2) := by decide +kernel
theorem dX6_readsRider_53 : decode cX6_readsRider 53 = .ok (.bipush 57, 2) := by decide +kernel
theorem dX6_readsRider_55 : decode cX6_readsRider 55 = .ok (.invokestatic 46, 3) := by decide +kernel
theorem dX6_readsRider_58 : decode cX6_readsRider 58 = .ok (.ifCond .eq 36, 3) := by decide +kernel
theorem dX6_readsRider_61 : decode cX6_readsRider 61 = .ok (.aload_n 0, 1) := by decide +kernel
theorem dX6_readsRider_62 : decode cX6_readsRider 62 = .ok (.getfield 25, 3) := by decide +kernel
theorem dX6_readsRider_65 : decode cX6_readsRider 65 = .ok (.iconst 2, 1) := by decide +kernel
theorem dX6_readsRider_66 : decode cX6_readsRider 66 = .ok (.bipush 10, 2) := by decide +kernel
theorem dX6_readsRider_68 : decode cX6_readsRider 68 = .ok (.aload_n 0, 1) := by decide +kernel
theorem dX6_readsRider_69 : decode cX6_readsRider 69 = .ok (.getfield 25, 3) := by decide +kernel
theorem dX6_readsRider_72 : decode cX6_readsRider 72 = .ok (.iconst 2, 1) := by decide +kernel
theorem dX6_readsRider_73 : decode cX6_readsRider 73 = .ok (.iaload, 1) := by decide +kernel
theorem dX6_readsRider_74 : decode cX6_readsRider 74 = .ok (.imul, 1) := by decide +kernel
theorem dX6_readsRider_75 : decode cX6_readsRider 75 = .ok (.aload_n 0, 1) := by decide +kernel
theorem dX6_readsRider_76 : decode cX6_readsRider 76 = .ok (.invokevirtual 191, 3) := by decide +kernel
theorem dX6_readsRider_79 : decode cX6_readsRider 79 = .ok (.iadd, 1) := by decide +kernel
theorem dX6_readsRider_80 : decode cX6_readsRider 80 = .ok (.bipush 48, 2) := by decide +kernel
theorem dX6_readsRider_82 : decode cX6_readsRider 82 = .ok (.isub, 1) := by decide +kernel
theorem dX6_readsRider_83 : decode cX6_readsRider 83 = .ok (.iastore, 1) := by decide +kernel
theorem dX6_readsRider_84 : decode cX6_readsRider 84 = .ok (.aload_n 0, 1) := by decide +kernel
theorem dX6_readsRider_85 : decode cX6_readsRider 85 = .ok (.dup, 1) := by decide +kernel
theorem dX6_readsRider_86 : decode cX6_readsRider 86 = .ok (.getfield 188, 3) := by decide +kernel
theorem dX6_readsRider_89 : decode cX6_readsRider 89 = .ok (.iconst 1, 1) := by decide +kernel
theorem dX6_readsRider_90 : decode cX6_readsRider 90 = .ok (.iadd, 1) := by decide +kernel
theorem dX6_readsRider_91 : decode cX6_readsRider 91 = .ok (.putfield 188, 3) := by decide +kernel
theorem dX6_readsRider_94 : decode cX6_readsRider 94 = .ok (.aload_n 0, 1) := by decide +kernel
theorem dX6_readsRider_95 : decode cX6_readsRider 95 = .ok (.getfield 25, 3) := by decide +kernel
theorem dX6_readsRider_98 : decode cX6_readsRider 98 = .ok (.iconst 3, 1) := by decide +kernel
theorem dX6_readsRider_99 : decode cX6_readsRider 99 = .ok (.iconst 1, 1) := by decide +kernel
theorem dX6_readsRider_100 : decode cX6_readsRider 100 = .ok (.iastore, 1) := by decide +kernel
theorem dX6_readsRider_101 : decode cX6_readsRider 101 = .ok (.aload_n 0, 1) := by decide +kernel
theorem dX6_readsRider_102 : decode cX6_readsRider 102 = .ok (.invokevirtual 191, 3) := by decide +kernel
theorem dX6_readsRider_105 : decode cX6_readsRider 105 = .ok (.bipush 120, 2) := by decide +kernel
theorem dX6_readsRider_107 : decode cX6_readsRider 107 = .ok (.if_icmp .eq 5, 3) := by decide +kernel
theorem dX6_readsRider_110 : decode cX6_readsRider 110 = .ok (.iconst 1, 1) := by decide +kernel
theorem dX6_readsRider_111 : decode cX6_readsRider 111 = .ok (.ireturn, 1) := by decide +kernel
theorem dX6_readsRider_112 : decode cX6_readsRider 112 = .ok (.aload_n 0, 1) := by decide +kernel
theorem dX6_readsRider_113 : decode cX6_readsRider 113 = .ok (.dup, 1) := by decide +kernel
theorem dX6_readsRider_114 : decode cX6_readsRider 114 = .ok (.getfield 188, 3) := by decide +kernel
theorem dX6_readsRider_117 : decode cX6_readsRider 117 = .ok (.iconst 1, 1) := by decide +kernel
theorem dX6_readsRider_118 : decode cX6_readsRider 118 = .ok (.iadd, 1) := by decide +kernel
theorem dX6_readsRider_119 : decode cX6_readsRider 119 = .ok (.putfield 188, 3) := by decide +kernel
theorem dX6_readsRider_122 : decode cX6_readsRider 122 = .ok (.aload_n 0, 1) := by decide +kernel
theorem dX6_readsRider_123 : decode cX6_readsRider 123 = .ok (.iconst 3, 1) := by decide +kernel
theorem dX6_readsRider_124 : decode cX6_readsRider 124 = .ok (.bipush 49, 2) := by decide +kernel
theorem dX6_readsRider_126 : decode cX6_readsRider 126 = .ok (.bipush 52, 2) := by decide +kernel
theorem dX6_readsRider_128 : decode cX6_readsRider 128 = .ok (.invokevirtual 194, 3) := by decide +kernel
theorem dX6_readsRider_131 : decode cX6_readsRider 131 = .ok (.istore_n 1, 1) := by decide +kernel
theorem dX6_readsRider_132 : decode cX6_readsRider 132 = .ok (.aload_n 0, 1) := by decide +kernel
theorem dX6_readsRider_133 : decode cX6_readsRider 133 = .ok (.getfield 25, 3) := by decide +kernel
theorem dX6_readsRider_136 : decode cX6_readsRider 136 = .ok (.iconst 3, 1) := by decide +kernel
theorem dX6_readsRider_137 : decode cX6_readsRider 137 = .ok (.dup2, 1) := by decide +kernel
theorem dX6_readsRider_138 : decode cX6_readsRider 138 = .ok (.iaload, 1) := by decide +kernel
theorem dX6_readsRider_139 : decode cX6_readsRider 139 = .ok (.iconst 1, 1) := by decide +kernel
theorem dX6_readsRider_140 : decode cX6_readsRider 140 = .ok (.iadd, 1) := by decide +kernel
theorem dX6_readsRider_141 : decode cX6_readsRider 141 = .ok (.iastore, 1) := by decide +kernel
theorem dX6_readsRider_142 : decode cX6_readsRider 142 = .ok (.iload_n 1, 1) := by decide +kernel
theorem dX6_readsRider_143 : decode cX6_readsRider 143 = .ok (.ireturn, 1) := by decide +kernel
theorem dX6_findFault_0 : decode cX6_findFault 0 = .ok (.aload_n 0, 1) := by decide +kernel
theorem dX6_findFault_1 : decode cX6_findFault 1 = .ok (.iconst 0, 1) := by decide +kernel
theorem dX6_findFault_2 : decode cX6_findFault 2 = .ok (.putfield 188, 3) := by decide +kernel
theorem dX6_findFault_5 : decode cX6_findFault 5 = .ok (.aload_n 0, 1) := by decide +kernel
theorem dX6_findFault_6 : decode cX6_findFault 6 = .ok (.invokevirtual 197, 3) := by decide +kernel
theorem dX6_findFault_9 : decode cX6_findFault 9 = .ok (.ifCond .eq 44, 3) := by decide +kernel
theorem dX6_findFault_12 : decode cX6_findFault 12 = .ok (.aload_n 0, 1) := by decide +kernel
theorem dX6_findFault_13 : decode cX6_findFault 13 = .ok (.getfield 188, 3) := by decide +kernel
theorem dX6_findFault_16 : decode cX6_findFault 16 = .ok (.aload_n 0, 1) := by decide +kernel
theorem dX6_findFault_17 : decode cX6_findFault 17 = .ok (.getfield 175, 3) := by decide +kernel
theorem dX6_findFault_20 : decode cX6_findFault 20 = .ok (.if_icmp .ne 6, 3) := by decide +kernel
