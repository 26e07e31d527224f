theorem dX5_rider_121 : decode cX5_rider 121 = .ok (.getfield 139, 3) := by decide +kernel
theorem dX5_rider_124 : decode cX5_rider 124 = .ok (.iload_n 1, 1) := by decide +kernel
theorem dX5_rider_125 : decode cX5_rider 125 = .ok (.iaload, 1) := by decide +kernel
theorem dX5_rider_126 : decode cX5_rider 126 = .ok (.ireturn, 1) := by decide +kernel
theorem dX5_rider_127 : decode cX5_rider 127 = .ok (.aload_n 0, 1) := by decide +kernel
theorem dX5_rider_128 : decode cX5_rider 128 = .ok (.getfield 19, 3) := by decide +kernel
theorem dX5_rider_131 : decode cX5_rider 131 = .ok (.aload_n 0, 1) := by decide +kernel
theorem dX5_rider_132 : decode cX5_rider 132 = .ok (.getfield 10, 3) := by decide +kernel
theorem dX5_rider_135 : decode cX5_rider 135 = .ok (.iload_n 1, 1) := by decide +kernel
theorem dX5_rider_136 : decode cX5_rider 136 = .ok (.invokevirtual 154, 3) := by decide +kernel
theorem dX5_rider_139 : decode cX5_rider 139 = .ok (.ireturn, 1) := by decide +kernel
theorem dX5_rider_140 : decode cX5_rider 140 = .ok (.aload_n 0, 1) := by decide +kernel
theorem dX5_rider_141 : decode cX5_rider 141 = .ok (.iload_n 1, 1) := by decide +kernel
theorem dX5_rider_142 : decode cX5_rider 142 = .ok (.invokevirtual 157, 3) := by decide +kernel
theorem dX5_rider_145 : decode cX5_rider 145 = .ok (.ireturn, 1) := by decide +kernel
theorem dX5_rider_146 : decode cX5_rider 146 = .ok (.aload_n 0, 1) := by decide +kernel
theorem dX5_rider_147 : decode cX5_rider 147 = .ok (.getfield 19, 3) := by decide +kernel
theorem dX5_rider_150 : decode cX5_rider 150 = .ok (.aload_n 0, 1) := by decide +kernel
theorem dX5_rider_151 : decode cX5_rider 151 = .ok (.getfield 10, 3) := by decide +kernel
theorem dX5_rider_154 : decode cX5_rider 154 = .ok (.iload_n 1, 1) := by decide +kernel
theorem dX5_rider_155 : decode cX5_rider 155 = .ok (.invokevirtual 128, 3) := by decide +kernel
theorem dX5_rider_158 : decode cX5_rider 158 = .ok (.ireturn, 1) := by decide +kernel
theorem dX5_rider_159 : decode cX5_rider 159 = .ok (.aload_n 0, 1) := by decide +kernel
theorem dX5_rider_160 : decode cX5_rider 160 = .ok (.getfield 19, 3) := by decide +kernel
theorem dX5_rider_163 : decode cX5_rider 163 = .ok (.aload_n 0, 1) := by decide +kernel
theorem dX5_rider_164 : decode cX5_rider 164 = .ok (.getfield 10, 3) := by decide +kernel
theorem dX5_rider_167 : decode cX5_rider 167 = .ok (.iload_n 1, 1) := by decide +kernel
theorem dX5_rider_168 : decode cX5_rider 168 = .ok (.invokevirtual 160, 3) := by decide +kernel
theorem dX5_rider_171 : decode cX5_rider 171 = .ok (.ireturn, 1) := by decide +kernel
theorem dX5_rider_172 : decode cX5_rider 172 = .ok (.bipush (-102), 2) := by decide +kernel
theorem dX5_rider_174 : decode cX5_rider 174 = .ok (.ireturn, 1) := by decide +kernel
theorem dX5_vanOf_0 : decode cX5_vanOf 0 = .ok (.iload_n 1, 1) := by decide +kernel
theorem dX5_vanOf_1 : decode cX5_vanOf 1 = .ok (.invokestatic 92, 3) := by decide +kernel
theorem dX5_vanOf_4 : decode cX5_vanOf 4 = .ok (.ifCond .ne 6, 3) := by decide +kernel
theorem dX5_vanOf_7 : decode cX5_vanOf 7 = .ok (.bipush (-101), 2) := by decide +kernel
theorem dX5_vanOf_9 : decode cX5_vanOf 9 = .ok (.ireturn, 1) := by decide +kernel
theorem dX5_vanOf_10 : decode cX5_vanOf 10 = .ok (.aload_n 0, 1) := by decide +kernel
theorem dX5_vanOf_11 : decode cX5_vanOf 11 = .ok (.getfield 26, 3) := by decide +kernel
theorem dX5_vanOf_14 : decode cX5_vanOf 14 = .ok (.aload_n 0, 1) := by decide +kernel
theorem dX5_vanOf_15 : decode cX5_vanOf 15 = .ok (.getfield 10, 3) := by decide +kernel
theorem dX5_vanOf_18 : decode cX5_vanOf 18 = .ok (.aload_n 0, 1) := by decide +kernel
theorem dX5_vanOf_19 : decode cX5_vanOf 19 = .ok (.getfield 19, 3) := by decide +kernel
theorem dX5_vanOf_22 : decode cX5_vanOf 22 = .ok (.iload_n 1, 1) := by decide +kernel
theorem dX5_vanOf_23 : decode cX5_vanOf 23 = .ok (.invokevirtual 163, 3) := by decide +kernel
theorem dX5_vanOf_26 : decode cX5_vanOf 26 = .ok (.iload_n 2, 1) := by decide +kernel
theorem dX5_vanOf_27 : decode cX5_vanOf 27 = .ok (.tableswitch 127 0 7 #[45, 55, 65, 75, 88, 98, 106, 114], 45) := by decide +kernel
theorem dX5_vanOf_72 : decode cX5_vanOf 72 = .ok (.aload_n 0, 1) := by decide +kernel
theorem dX5_vanOf_73 : decode cX5_vanOf 73 = .ok (.getfield 10, 3) := by decide +kernel
theorem dX5_vanOf_76 : decode cX5_vanOf 76 = .ok (.getfield 95, 3) := by decide +kernel
theorem dX5_vanOf_79 : decode cX5_vanOf 79 = .ok (.iload_n 1, 1) := by decide +kernel
theorem dX5_vanOf_80 : decode cX5_vanOf 80 = .ok (.iaload, 1) := by decide +kernel
theorem dX5_vanOf_81 : decode cX5_vanOf 81 = .ok (.ireturn, 1) := by decide +kernel
theorem dX5_vanOf_82 : decode cX5_vanOf 82 = .ok (.aload_n 0, 1) := by decide +kernel
theorem dX5_vanOf_83 : decode cX5_vanOf 83 = .ok (.getfield 10, 3) := by decide +kernel
theorem dX5_vanOf_86 : decode cX5_vanOf 86 = .ok (.getfield 98, 3) := by decide +kernel
theorem dX5_vanOf_89 : decode cX5_vanOf 89 = .ok (.iload_n 1, 1) := by decide +kernel
theorem dX5_vanOf_90 : decode cX5_vanOf 90 = .ok (.iaload, 1) := by decide +kernel
theorem dX5_vanOf_91 : decode cX5_vanOf 91 = .ok (.ireturn, 1) := by decide +kernel
theorem dX5_vanOf_92 : decode cX5_vanOf 92 = .ok (.aload_n 0, 1) := by decide +kernel
theorem dX5_vanOf_93 : decode cX5_vanOf 93 = .ok (.getfield 19, 3) := by decide +kernel
theorem dX5_vanOf_96 : decode cX5_vanOf 96 = .ok (.getfield 167, 3) := by decide +kernel
theorem dX5_vanOf_99 : decode cX5_vanOf 99 = .ok (.iload_n 1, 1) := by decide +kernel
theorem dX5_vanOf_100 : decode cX5_vanOf 100 = .ok (.iaload, 1) := by decide +kernel
theorem dX5_vanOf_101 : decode cX5_vanOf 101 = .ok (.ireturn, 1) := by decide +kernel
theorem dX5_vanOf_102 : decode cX5_vanOf 102 = .ok (.aload_n 0, 1) := by decide +kernel
theorem dX5_vanOf_103 : decode cX5_vanOf 103 = .ok (.getfield 19, 3) := by decide +kernel
theorem dX5_vanOf_106 : decode cX5_vanOf 106 = .ok (.aload_n 0, 1) := by decide +kernel
theorem dX5_vanOf_107 : decode cX5_vanOf 107 = .ok (.getfield 10, 3) := by decide +kernel
theorem dX5_vanOf_110 : decode cX5_vanOf 110 = .ok (.iload_n 1, 1) := by decide +kernel
theorem dX5_vanOf_111 : decode cX5_vanOf 111 = .ok (.invokevirtual 170, 3) := by decide +kernel
theorem dX5_vanOf_114 : decode cX5_vanOf 114 = .ok (.ireturn, 1) := by decide +kernel
theorem dX5_vanOf_115 : decode cX5_vanOf 115 = .ok (.aload_n 0, 1) := by decide +kernel
theorem dX5_vanOf_116 : decode cX5_vanOf 116 = .ok (.getfield 19, 3) := by decide +kernel
theorem dX5_vanOf_119 : decode cX5_vanOf 119 = .ok (.getfield 173, 3) := by decide +kernel
theorem dX5_vanOf_122 : decode cX5_vanOf 122 = .ok (.iload_n 1, 1) := by decide +kernel
theorem dX5_vanOf_123 : decode cX5_vanOf 123 = .ok (.iaload, 1) := by decide +kernel
theorem dX5_vanOf_124 : decode cX5_vanOf 124 = .ok (.ireturn, 1) := by decide +kernel
theorem dX5_vanOf_125 : decode cX5_vanOf 125 = .ok (.aload_n 0, 1) := by decide +kernel
theorem dX5_vanOf_126 : decode cX5_vanOf 126 = .ok (.getfield 26, 3) := by decide +kernel
theorem dX5_vanOf_129 : decode cX5_vanOf 129 = .ok (.getfield 176, 3) := by decide +kernel
theorem dX5_vanOf_132 : decode cX5_vanOf 132 = .ok (.ireturn, 1) := by decide +kernel
theorem dX5_vanOf_133 : decode cX5_vanOf 133 = .ok (.aload_n 0, 1) := by decide +kernel
theorem dX5_vanOf_134 : decode cX5_vanOf 134 = .ok (.getfield 26, 3) := by decide +kernel
theorem dX5_vanOf_137 : decode cX5_vanOf 137 = .ok (.invokevirtual 179, 3) := by decide +kernel
theorem dX5_vanOf_140 : decode cX5_vanOf 140 = .ok (.ireturn, 1) := by decide +kernel
theorem dX5_vanOf_141 : decode cX5_vanOf 141 = .ok (.aload_n 0, 1) := by decide +kernel
theorem dX5_vanOf_142 : decode cX5_vanOf 142 = .ok (.getfield 19, 3) := by decide +kernel
theorem dX5_vanOf_145 : decode cX5_vanOf 145 = .ok (.aload_n 0, 1) := by decide +kernel
theorem dX5_vanOf_146 : decode cX5_vanOf 146 = .ok (.getfield 10, 3) := by decide +kernel
theorem dX5_vanOf_149 : decode cX5_vanOf 149 = .ok (.iload_n 1, 1) := by decide +kernel
theorem dX5_vanOf_150 : decode cX5_vanOf 150 = .ok (.invokevirtual 182, 3) := by decide +kernel
theorem dX5_vanOf_153 : decode cX5_vanOf 153 = .ok (.ireturn, 1) := by decide +kernel
theorem dX5_vanOf_154 : decode cX5_vanOf 154 = .ok (.bipush (-102), 2) := by decide +kernel
theorem dX5_vanOf_156 : decode cX5_vanOf 156 = .ok (.ireturn, 1) := by decide +kernel
theorem dX5_flight_0 : decode cX5_flight 0 = .ok (.iload_n 1, 1) := by decide +kernel
theorem dX5_flight_1 : decode cX5_flight 1 = .ok (.invokestatic 75, 3) := by decide +kernel
theorem dX5_flight_4 : decode cX5_flight 4 = .ok (.ifCond .ne 6, 3) := by decide +kernel
theorem dX5_flight_7 : decode cX5_flight 7 = .ok (.bipush (-101), 2) := by decide +kernel
theorem dX5_flight_9 : decode cX5_flight 9 = .ok (.ireturn, 1) := by decide +kernel
theorem dX5_flight_10 : decode cX5_flight 10 = .ok (.iload_n 2, 1) := by decide +kernel
theorem dX5_flight_11 : decode cX5_flight 11 = .ok (.tableswitch 90 0 4 #[33, 43, 53, 62, 76], 33) := by decide +kernel
theorem dX5_flight_44 : decode cX5_flight 44 = .ok (.aload_n 0, 1) := by decide +kernel
theorem dX5_flight_45 : decode cX5_flight 45 = .ok (.getfield 10, 3) := by decide +kernel
theorem dX5_flight_48 : decode cX5_flight 48 = .ok (.getfield 79, 3) := by decide +kernel
theorem dX5_flight_51 : decode cX5_flight 51 = .ok (.iload_n 1, 1) := by decide +kernel
theorem dX5_flight_52 : decode cX5_flight 52 = .ok (.iaload, 1) := by decide +kernel
theorem dX5_flight_53 : decode cX5_flight 53 = .ok (.ireturn, 1) := by decide +kernel
theorem dX5_flight_54 : decode cX5_flight 54 = .ok (.aload_n 0, 1) := by decide +kernel
theorem dX5_flight_55 : decode cX5_flight 55 = .ok (.getfield 10, 3) := by decide +kernel
theorem dX5_flight_58 : decode cX5_flight 58 = .ok (.getfield 85, 3) := by decide +kernel
theorem dX5_flight_61 : decode cX5_flight 61 = .ok (.iload_n 1, 1) := by decide +kernel
theorem dX5_flight_62 : decode cX5_flight 62 = .ok (.iaload, 1) := by decide +kernel
theorem dX5_flight_63 : decode cX5_flight 63 = .ok (.ireturn, 1) := by decide +kernel
theorem dX5_flight_64 : decode cX5_flight 64 = .ok (.aload_n 0, 1) := by decide +kernel
theorem dX5_flight_65 : decode cX5_flight 65 = .ok (.getfield 10, 3) := by decide +kernel
theorem dX5_flight_68 : decode cX5_flight 68 = .ok (.iload_n 1, 1) := by decide +kernel
theorem dX5_flight_69 : decode cX5_flight 69 = .ok (.invokevirtual 88, 3) := by decide +kernel
theorem dX5_flight_72 : decode cX5_flight 72 = .ok (.ireturn, 1) := by decide +kernel
theorem dX5_flight_73 : decode cX5_flight 73 = .ok (.aload_n 0, 1) := by decide +kernel
theorem dX5_flight_74 : decode cX5_flight 74 = .ok (.getfield 19, 3) := by decide +kernel
theorem dX5_flight_77 : decode cX5_flight 77 = .ok (.aload_n 0, 1) := by decide +kernel
theorem dX5_flight_78 : decode cX5_flight 78 = .ok (.getfield 10, 3) := by decide +kernel
theorem dX5_flight_81 : decode cX5_flight 81 = .ok (.iload_n 1, 1) := by decide +kernel
theorem dX5_flight_82 : decode cX5_flight 82 = .ok (.iconst 0, 1) := by decide +kernel
theorem dX5_flight_83 : decode cX5_flight 83 = .ok (.invokevirtual 185, 3) := by decide +kernel
theorem dX5_flight_86 : decode cX5_flight 86 = .ok (.ireturn, 1) := by decide +kernel
theorem dX5_flight_87 : decode cX5_flight 87 = .ok (.aload_n 0, 1) := by decide +kernel
theorem dX5_flight_88 : decode cX5_flight 88 = .ok (.getfield 19, 3) := by decide +kernel
theorem dX5_flight_91 : decode cX5_flight 91 = .ok (.aload_n 0, 1) := by decide +kernel
theorem dX5_flight_92 : decode cX5_flight 92 = .ok (.getfield 10, 3) := by decide +kernel
theorem dX5_flight_95 : decode cX5_flight 95 = .ok (.iload_n 1, 1) := by decide +kernel
theorem dX5_flight_96 : decode cX5_flight 96 = .ok (.iconst 1, 1) := by decide +kernel
theorem dX5_flight_97 : decode cX5_flight 97 = .ok (.invokevirtual 185, 3) := by decide +kernel
theorem dX5_flight_100 : decode cX5_flight 100 = .ok (.ireturn, 1) := by decide +kernel
theorem dX5_flight_101 : decode cX5_flight 101 = .ok (.bipush (-102), 2) := by decide +kernel
theorem dX5_flight_103 : decode cX5_flight 103 = .ok (.ireturn, 1) := by decide +kernel
theorem dX5_stop_0 : decode cX5_stop 0 = .ok (.iload_n 1, 1) := by decide +kernel
theorem dX5_stop_1 : decode cX5_stop 1 = .ok (.invokestatic 92, 3) := by decide +kernel
theorem dX5_stop_4 : decode cX5_stop 4 = .ok (.ifCond .ne 6, 3) := by decide +kernel
theorem dX5_stop_7 : decode cX5_stop 7 = .ok (.bipush (-101), 2) := by decide +kernel
theorem dX5_stop_9 : decode cX5_stop 9 = .ok (.ireturn, 1) := by decide +kernel
theorem dX5_stop_10 : decode cX5_stop 10 = .ok (.aload_n 0, 1) := by decide +kernel
theorem dX5_stop_11 : decode cX5_stop 11 = .ok (.getfield 26, 3) := by decide +kernel
theorem dX5_stop_14 : decode cX5_stop 14 = .ok (.aload_n 0, 1) := by decide +kernel
theorem dX5_stop_15 : decode cX5_stop 15 = .ok (.getfield 10, 3) := by decide +kernel
theorem dX5_stop_18 : decode cX5_stop 18 = .ok (.aload_n 0, 1) := by decide +kernel
theorem dX5_stop_19 : decode cX5_stop 19 = .ok (.getfield 19, 3) := by decide +kernel
theorem dX5_stop_22 : decode cX5_stop 22 = .ok (.iload_n 1, 1) := by decide +kernel
theorem dX5_stop_23 : decode cX5_stop 23 = .ok (.invokevirtual 163, 3) := by decide +kernel
theorem dX5_stop_26 : decode cX5_stop 26 = .ok (.iload_n 2, 1) := by decide +kernel
theorem dX5_stop_27 : decode cX5_stop 27 = .ok (.iconst 0, 1) := by decide +kernel
theorem dX5_stop_28 : decode cX5_stop 28 = .ok (.aload_n 0, 1) := by decide +kernel
theorem dX5_stop_29 : decode cX5_stop 29 = .ok (.getfield 26, 3) := by decide +kernel
theorem dX5_stop_32 : decode cX5_stop 32 = .ok (.getfield 176, 3) := by decide +kernel
theorem dX5_stop_35 : decode cX5_stop 35 = .ok (.iconst 1, 1) := by decide +kernel
theorem dX5_stop_36 : decode cX5_stop 36 = .ok (.isub, 1) := by decide +kernel
theorem dX5_stop_37 : decode cX5_stop 37 = .ok (.invokestatic 54, 3) := by decide +kernel
theorem dX5_stop_40 : decode cX5_stop 40 = .ok (.ifCond .ne 6, 3) := by decide +kernel
theorem dX5_stop_43 : decode cX5_stop 43 = .ok (.bipush (-101), 2) := by decide +kernel
theorem dX5_stop_45 : decode cX5_stop 45 = .ok (.ireturn, 1) := by decide +kernel
theorem dX5_stop_46 : decode cX5_stop 46 = .ok (.iload_n 3, 1) := by decide +kernel
theorem dX5_stop_47 : decode cX5_stop 47 = .ok (.tableswitch 75 0 3 #[29, 42, 55, 65], 29) := by decide +kernel
theorem dX5_stop_76 : decode cX5_stop 76 = .ok (.aload_n 0, 1) := by decide +kernel
theorem dX5_stop_77 : decode cX5_stop 77 = .ok (.getfield 26, 3) := by decide +kernel
theorem dX5_stop_80 : decode cX5_stop 80 = .ok (.getfield 189, 3) := by decide +kernel
theorem dX5_stop_83 : decode cX5_stop 83 = .ok (.iload_n 2, 1) := by decide +kernel
theorem dX5_stop_84 : decode cX5_stop 84 = .ok (.iaload, 1) := by decide +kernel
theorem dX5_stop_85 : decode cX5_stop 85 = .ok (.invokestatic 192, 3) := by decide +kernel
theorem dX5_stop_88 : decode cX5_stop 88 = .ok (.ireturn, 1) := by decide +kernel
theorem dX5_stop_89 : decode cX5_stop 89 = .ok (.aload_n 0, 1) := by decide +kernel
theorem dX5_stop_90 : decode cX5_stop 90 = .ok (.getfield 26, 3) := by decide +kernel
theorem dX5_stop_93 : decode cX5_stop 93 = .ok (.getfield 189, 3) := by decide +kernel
theorem dX5_stop_96 : decode cX5_stop 96 = .ok (.iload_n 2, 1) := by decide +kernel
theorem dX5_stop_97 : decode cX5_stop 97 = .ok (.iaload, 1) := by decide +kernel
theorem dX5_stop_98 : decode cX5_stop 98 = .ok (.invokestatic 195, 3) := by decide +kernel
theorem dX5_stop_101 : decode cX5_stop 101 = .ok (.ireturn, 1) := by decide +kernel
theorem dX5_stop_102 : decode cX5_stop 102 = .ok (.aload_n 0, 1) := by decide +kernel
theorem dX5_stop_103 : decode cX5_stop 103 = .ok (.getfield 26, 3) := by decide +kernel
theorem dX5_stop_106 : decode cX5_stop 106 = .ok (.getfield 198, 3) := by decide +kernel
theorem dX5_stop_109 : decode cX5_stop 109 = .ok (.iload_n 2, 1) := by decide +kernel
theorem dX5_stop_110 : decode cX5_stop 110 = .ok (.iaload, 1) := by decide +kernel
theorem dX5_stop_111 : decode cX5_stop 111 = .ok (.ireturn, 1) := by decide +kernel
theorem dX5_stop_112 : decode cX5_stop 112 = .ok (.aload_n 0, 1) := by decide +kernel
theorem dX5_stop_113 : decode cX5_stop 113 = .ok (.getfield 26, 3) := by decide +kernel
theorem dX5_stop_116 : decode cX5_stop 116 = .ok (.getfield 201, 3) := by decide +kernel
theorem dX5_stop_119 : decode cX5_stop 119 = .ok (.iload_n 2, 1) := by decide +kernel
theorem dX5_stop_120 : decode cX5_stop 120 = .ok (.iaload, 1) := by decide +kernel
theorem dX5_stop_121 : decode cX5_stop 121 = .ok (.ireturn, 1) := by decide +kernel
theorem dX5_stop_122 : decode cX5_stop 122 = .ok (.bipush (-102), 2) := by decide +kernel
theorem dX5_stop_124 : decode cX5_stop 124 = .ok (.ireturn, 1) := by decide +kernel
theorem dX5_count_0 : decode cX5_count 0 = .ok (.iload_n 1, 1) := by decide +kernel
theorem dX5_count_1 : decode cX5_count 1 = .ok (.iconst 0, 1) := by decide +kernel
theorem dX5_count_2 : decode cX5_count 2 = .ok (.iconst 4, 1) := by decide +kernel
theorem dX5_count_3 : decode cX5_count 3 = .ok (.invokestatic 54, 3) := by decide +kernel
theorem dX5_count_6 : decode cX5_count 6 = .ok (.ifCond .eq 13, 3) := by decide +kernel
theorem dX5_count_9 : decode cX5_count 9 = .ok (.aload_n 0, 1) := by decide +kernel
theorem dX5_count_10 : decode cX5_count 10 = .ok (.getfield 10, 3) := by decide +kernel
theorem dX5_count_13 : decode cX5_count 13 = .ok (.getfield 65, 3) := by decide +kernel
theorem dX5_count_16 : decode cX5_count 16 = .ok (.iload_n 1, 1) := by decide +kernel
theorem dX5_count_17 : decode cX5_count 17 = .ok (.iaload, 1) := by decide +kernel
theorem dX5_count_18 : decode cX5_count 18 = .ok (.ireturn, 1) := by decide +kernel
theorem dX5_count_19 : decode cX5_count 19 = .ok (.iload_n 1, 1) := by decide +kernel
theorem dX5_count_20 : decode cX5_count 20 = .ok (.tableswitch 147 5 15 #[60, 68, 76, 84, 92, 100, 105, 113, 118, 131, 139], 60) := by decide +kernel
theorem dX5_count_80 : decode cX5_count 80 = .ok (.aload_n 0, 1) := by decide +kernel
theorem dX5_count_81 : decode cX5_count 81 = .ok (.getfield 10, 3) := by decide +kernel
theorem dX5_count_84 : decode cX5_count 84 = .ok (.getfield 105, 3) := by decide +kernel
theorem dX5_count_87 : decode cX5_count 87 = .ok (.ireturn, 1) := by decide +kernel
theorem dX5_count_88 : decode cX5_count 88 = .ok (.aload_n 0, 1) := by decide +kernel
theorem dX5_count_89 : decode cX5_count 89 = .ok (.getfield 10, 3) := by decide +kernel
theorem dX5_count_92 : decode cX5_count 92 = .ok (.invokevirtual 202, 3) := by decide +kernel
theorem dX5_count_95 : decode cX5_count 95 = .ok (.ireturn, 1) := by decide +kernel
theorem dX5_count_96 : decode cX5_count 96 = .ok (.aload_n 0, 1) := by decide +kernel
theorem dX5_count_97 : decode cX5_count 97 = .ok (.getfield 19, 3) := by decide +kernel
theorem dX5_count_100 : decode cX5_count 100 = .ok (.getfield 205, 3) := by decide +kernel
theorem dX5_count_103 : decode cX5_count 103 = .ok (.ireturn, 1) := by decide +kernel
theorem dX5_count_104 : decode cX5_count 104 = .ok (.aload_n 0, 1) := by decide +kernel
theorem dX5_count_105 : decode cX5_count 105 = .ok (.getfield 19, 3) := by decide +kernel
theorem dX5_count_108 : decode cX5_count 108 = .ok (.getfield 101, 3) := by decide +kernel
theorem dX5_count_111 : decode cX5_count 111 = .ok (.ireturn, 1) := by decide +kernel
theorem dX5_count_112 : decode cX5_count 112 = .ok (.aload_n 0, 1) := by decide +kernel
theorem dX5_count_113 : decode cX5_count 113 = .ok (.getfield 19, 3) := by decide +kernel
theorem dX5_count_116 : decode cX5_count 116 = .ok (.getfield 208, 3) := by decide +kernel
theorem dX5_count_119 : decode cX5_count 119 = .ok (.ireturn, 1) := by decide +kernel
theorem dX5_count_120 : decode cX5_count 120 = .ok (.aload_n 0, 1) := by decide +kernel
theorem dX5_count_121 : decode cX5_count 121 = .ok (.invokevirtual 211, 3) := by decide +kernel
theorem dX5_count_124 : decode cX5_count 124 = .ok (.ireturn, 1) := by decide +kernel
theorem dX5_count_125 : decode cX5_count 125 = .ok (.aload_n 0, 1) := by decide +kernel
theorem dX5_count_126 : decode cX5_count 126 = .ok (.getfield 19, 3) := by decide +kernel
theorem dX5_count_129 : decode cX5_count 129 = .ok (.invokevirtual 214, 3) := by decide +kernel
theorem dX5_count_132 : decode cX5_count 132 = .ok (.ireturn, 1) := by decide +kernel
theorem dX5_count_133 : decode cX5_count 133 = .ok (.aload_n 0, 1) := by decide +kernel
theorem dX5_count_134 : decode cX5_count 134 = .ok (.invokevirtual 217, 3) := by decide +kernel
theorem dX5_count_137 : decode cX5_count 137 = .ok (.ireturn, 1) := by decide +kernel
theorem dX5_count_138 : decode cX5_count 138 = .ok (.aload_n 0, 1) := by decide +kernel
theorem dX5_count_139 : decode cX5_count 139 = .ok (.aload_n 0, 1) := by decide +kernel
theorem dX5_count_140 : decode cX5_count 140 = .ok (.getfield 10, 3) := by decide +kernel
theorem dX5_count_143 : decode cX5_count 143 = .ok (.aload_n 0, 1) := by decide +kernel
theorem dX5_count_144 : decode cX5_count 144 = .ok (.getfield 19, 3) := by decide +kernel
theorem dX5_count_147 : decode cX5_count 147 = .ok (.invokevirtual 220, 3) := by decide +kernel
theorem dX5_count_150 : decode cX5_count 150 = .ok (.ireturn, 1) := by decide +kernel
theorem dX5_count_151 : decode cX5_count 151 = .ok (.aload_n 0, 1) := by decide +kernel
theorem dX5_count_152 : decode cX5_count 152 = .ok (.getfield 39, 3) := by decide +kernel
theorem dX5_count_155 : decode cX5_count 155 = .ok (.getfield 122, 3) := by decide +kernel
theorem dX5_count_158 : decode cX5_count 158 = .ok (.ireturn, 1) := by decide +kernel
theorem dX5_count_159 : decode cX5_count 159 = .ok (.aload_n 0, 1) := by decide +kernel
theorem dX5_count_160 : decode cX5_count 160 = .ok (.getfield 46, 3) := by decide +kernel
theorem dX5_count_163 : decode cX5_count 163 = .ok (.getfield 224, 3) := by decide +kernel
theorem dX5_count_166 : decode cX5_count 166 = .ok (.ireturn, 1) := by decide +kernel
theorem dX5_count_167 : decode cX5_count 167 = .ok (.bipush (-102), 2) := by decide +kernel
theorem dX5_count_169 : decode cX5_count 169 = .ok (.ireturn, 1) := by decide +kernel
theorem dX5_kerb_0 : decode cX5_kerb 0 = .ok (.iload_n 1, 1) := by decide +kernel
theorem dX5_kerb_1 : decode cX5_kerb 1 = .ok (.iconst 0, 1) := by decide +kernel
theorem dX5_kerb_2 : decode cX5_kerb 2 = .ok (.sipush 3000, 3) := by decide +kernel
theorem dX5_kerb_5 : decode cX5_kerb 5 = .ok (.invokestatic 54, 3) := by decide +kernel
theorem dX5_kerb_8 : decode cX5_kerb 8 = .ok (.ifCond .ne 6, 3) := by decide +kernel
theorem dX5_kerb_11 : decode cX5_kerb 11 = .ok (.bipush (-102), 2) := by decide +kernel
theorem dX5_kerb_13 : decode cX5_kerb 13 = .ok (.ireturn, 1) := by decide +kernel
theorem dX5_kerb_14 : decode cX5_kerb 14 = .ok (.iconst 0, 1) := by decide +kernel
theorem dX5_kerb_15 : decode cX5_kerb 15 = .ok (.istore_n 2, 1) := by decide +kernel
theorem dX5_kerb_16 : decode cX5_kerb 16 = .ok (.iconst 0, 1) := by decide +kernel
theorem dX5_kerb_17 : decode cX5_kerb 17 = .ok (.istore_n 3, 1) := by decide +kernel
theorem dX5_kerb_18 : decode cX5_kerb 18 = .ok (.iload_n 3, 1) := by decide +kernel
theorem dX5_kerb_19 : decode cX5_kerb 19 = .ok (.aload_n 0, 1) := by decide +kernel
theorem dX5_kerb_20 : decode cX5_kerb 20 = .ok (.getfield 10, 3) := by decide +kernel
theorem dX5_kerb_23 : decode cX5_kerb 23 = .ok (.getfield 105, 3) := by decide +kernel
theorem dX5_kerb_26 : decode cX5_kerb 26 = .ok (.if_icmp .ge 37, 3) := by decide +kernel
theorem dX5_kerb_29 : decode cX5_kerb 29 = .ok (.aload_n 0, 1) := by decide +kernel
theorem dX5_kerb_30 : decode cX5_kerb 30 = .ok (.getfield 19, 3) := by decide +kernel
theorem dX5_kerb_33 : decode cX5_kerb 33 = .ok (.aload_n 0, 1) := by decide +kernel
theorem dX5_kerb_34 : decode cX5_kerb 34 = .ok (.getfield 10, 3) := by decide +kernel
theorem dX5_kerb_37 : decode cX5_kerb 37 = .ok (.iload_n 3, 1) := by decide +kernel
theorem dX5_kerb_38 : decode cX5_kerb 38 = .ok (.iload_n 1, 1) := by decide +kernel
theorem dX5_kerb_39 : decode cX5_kerb 39 = .ok (.invokevirtual 227, 3) := by decide +kernel
theorem dX5_kerb_42 : decode cX5_kerb 42 = .ok (.ifCond .eq 15, 3) := by decide +kernel
theorem dX5_kerb_45 : decode cX5_kerb 45 = .ok (.iload_n 2, 1) := by decide +kernel
theorem dX5_kerb_46 : decode cX5_kerb 46 = .ok (.aload_n 0, 1) := by decide +kernel
theorem dX5_kerb_47 : decode cX5_kerb 47 = .ok (.getfield 10, 3) := by decide +kernel
theorem dX5_kerb_50 : decode cX5_kerb 50 = .ok (.getfield 148, 3) := by decide +kernel
theorem dX5_kerb_53 : decode cX5_kerb 53 = .ok (.iload_n 3, 1) := by decide +kernel
theorem dX5_kerb_54 : decode cX5_kerb 54 = .ok (.iaload, 1) := by decide +kernel
theorem dX5_kerb_55 : decode cX5_kerb 55 = .ok (.iadd, 1) := by decide +kernel
theorem dX5_kerb_56 : decode cX5_kerb 56 = .ok (.istore_n 2, 1) := by decide +kernel
theorem dX5_kerb_57 : decode cX5_kerb 57 = .ok (.iinc 3 1, 3) := by decide +kernel
theorem dX5_kerb_60 : decode cX5_kerb 60 = .ok (.goto (-42), 3) := by decide +kernel
theorem dX5_kerb_63 : decode cX5_kerb 63 = .ok (.iload_n 2, 1) := by decide +kernel
theorem dX5_kerb_64 : decode cX5_kerb 64 = .ok (.ireturn, 1) := by decide +kernel
theorem dX5_fullest_0 : decode cX5_fullest 0 = .ok (.bipush (-106), 2) := by decide +kernel
theorem dX5_fullest_2 : decode cX5_fullest 2 = .ok (.istore_n 1, 1) := by decide +kernel
theorem dX5_fullest_3 : decode cX5_fullest 3 = .ok (.iconst 0, 1) := by decide +kernel
theorem dX5_fullest_4 : decode cX5_fullest 4 = .ok (.istore_n 2, 1) := by decide +kernel
theorem dX5_fullest_5 : decode cX5_fullest 5 = .ok (.iconst 0, 1) := by decide +kernel
theorem dX5_fullest_6 : decode cX5_fullest 6 = .ok (.istore_n 3, 1) := by decide +kernel
theorem dX5_fullest_7 : decode cX5_fullest 7 = .ok (.iload_n 3, 1) := by decide +kernel
theorem dX5_fullest_8 : decode cX5_fullest 8 = .ok (.bipush 8, 2) := by decide +kernel
theorem dX5_fullest_10 : decode cX5_fullest 10 = .ok (.if_icmp .ge 34, 3) := by decide +kernel
theorem dX5_fullest_13 : decode cX5_fullest 13 = .ok (.aload_n 0, 1) := by decide +kernel
theorem dX5_fullest_14 : decode cX5_fullest 14 = .ok (.getfield 19, 3) := by decide +kernel
theorem dX5_fullest_17 : decode cX5_fullest 17 = .ok (.getfield 167, 3) := by decide +kernel
theorem dX5_fullest_20 : decode cX5_fullest 20 = .ok (.iload_n 3, 1) := by decide +kernel
theorem dX5_fullest_21 : decode cX5_fullest 21 = .ok (.iaload, 1) := by decide +kernel
theorem dX5_fullest_22 : decode cX5_fullest 22 = .ok (.iload_n 2, 1) := by decide +kernel
theorem dX5_fullest_23 : decode cX5_fullest 23 = .ok (.if_icmp .le 15, 3) := by decide +kernel
theorem dX5_fullest_26 : decode cX5_fullest 26 = .ok (.iload_n 3, 1) := by decide +kernel
theorem dX5_fullest_27 : decode cX5_fullest 27 = .ok (.istore_n 1, 1) := by decide +kernel
theorem dX5_fullest_28 : decode cX5_fullest 28 = .ok (.aload_n 0, 1) := by decide +kernel
theorem dX5_fullest_29 : decode cX5_fullest 29 = .ok (.getfield 19, 3) := by decide +kernel
theorem dX5_fullest_32 : decode cX5_fullest 32 = .ok (.getfield 167, 3) := by decide +kernel
theorem dX5_fullest_35 : decode cX5_fullest 35 = .ok (.iload_n 3, 1) := by decide +kernel
theorem dX5_fullest_36 : decode cX5_fullest 36 = .ok (.iaload, 1) := by decide +kernel
theorem dX5_fullest_37 : decode cX5_fullest 37 = .ok (.istore_n 2, 1) := by decide +kernel
theorem dX5_fullest_38 : decode cX5_fullest 38 = .ok (.iinc 3 1, 3) := by decide +kernel
theorem dX5_fullest_41 : decode cX5_fullest 41 = .ok (.goto (-34), 3) := by decide +kernel
theorem dX5_fullest_44 : decode cX5_fullest 44 = .ok (.iload_n 1, 1) := by decide +kernel
theorem dX5_fullest_45 : decode cX5_fullest 45 = .ok (.ireturn, 1) := by decide +kernel
theorem dX5_undo_0 : decode cX5_undo 0 = .ok (.aload_n 0, 1) := by decide +kernel
theorem dX5_undo_1 : decode cX5_undo 1 = .ok (.getfield 46, 3) := by decide +kernel
theorem dX5_undo_4 : decode cX5_undo 4 = .ok (.getfield 224, 3) := by decide +kernel
theorem dX5_undo_7 : decode cX5_undo 7 = .ok (.ifCond .ne 6, 3) := by decide +kernel
theorem dX5_undo_10 : decode cX5_undo 10 = .ok (.bipush (-105), 2) := by decide +kernel
theorem dX5_undo_12 : decode cX5_undo 12 = .ok (.ireturn, 1) := by decide +kernel
theorem dX5_undo_13 : decode cX5_undo 13 = .ok (.aload_n 0, 1) := by decide +kernel
theorem dX5_undo_14 : decode cX5_undo 14 = .ok (.getfield 46, 3) := by decide +kernel
theorem dX5_undo_17 : decode cX5_undo 17 = .ok (.aload_n 0, 1) := by decide +kernel
theorem dX5_undo_18 : decode cX5_undo 18 = .ok (.getfield 10, 3) := by decide +kernel
theorem dX5_undo_21 : decode cX5_undo 21 = .ok (.invokevirtual 248, 3) := by decide +kernel
theorem dX5_undo_24 : decode cX5_undo 24 = .ok (.aload_n 0, 1) := by decide +kernel
theorem dX5_undo_25 : decode cX5_undo 25 = .ok (.getfield 19, 3) := by decide +kernel
theorem dX5_undo_28 : decode cX5_undo 28 = .ok (.aload_n 0, 1) := by decide +kernel
theorem dX5_undo_29 : decode cX5_undo 29 = .ok (.getfield 10, 3) := by decide +kernel
theorem dX5_undo_32 : decode cX5_undo 32 = .ok (.invokevirtual 72, 3) := by decide +kernel
theorem dX5_undo_35 : decode cX5_undo 35 = .ok (.aload_n 0, 1) := by decide +kernel
theorem dX5_undo_36 : decode cX5_undo 36 = .ok (.getfield 46, 3) := by decide +kernel
theorem dX5_undo_39 : decode cX5_undo 39 = .ok (.getfield 224, 3) := by decide +kernel
theorem dX5_undo_42 : decode cX5_undo 42 = .ok (.ireturn, 1) := by decide +kernel
theorem dX5_isIn_0 : decode cX5_isIn 0 = .ok (.iload_n 0, 1) := by decide +kernel
theorem dX5_isIn_1 : decode cX5_isIn 1 = .ok (.iload_n 1, 1) := by decide +kernel
theorem dX5_isIn_2 : decode cX5_isIn 2 = .ok (.if_icmp .lt 12, 3) := by decide +kernel
theorem dX5_isIn_5 : decode cX5_isIn 5 = .ok (.iload_n 0, 1) := by decide +kernel
theorem dX5_isIn_6 : decode cX5_isIn 6 = .ok (.iload_n 2, 1) := by decide +kernel
theorem dX5_isIn_7 : decode cX5_isIn 7 = .ok (.if_icmp .gt 7, 3) := by decide +kernel
theorem dX5_isIn_10 : decode cX5_isIn 10 = .ok (.iconst 1, 1) := by decide +kernel
theorem dX5_isIn_11 : decode cX5_isIn 11 = .ok (.goto 4, 3) := by decide +kernel
theorem dX5_isIn_14 : decode cX5_isIn 14 = .ok (.iconst 0, 1) := by decide +kernel
theorem dX5_isIn_15 : decode cX5_isIn 15 = .ok (.ireturn, 1) := by decide +kernel
theorem dX5_isFlight_0 : decode cX5_isFlight 0 = .ok (.iload_n 0, 1) := by decide +kernel
theorem dX5_isFlight_1 : decode cX5_isFlight 1 = .ok (.iconst 0, 1) := by decide +kernel
theorem dX5_isFlight_2 : decode cX5_isFlight 2 = .ok (.iconst 5, 1) := by decide +kernel
theorem dX5_isFlight_3 : decode cX5_isFlight 3 = .ok (.invokestatic 54, 3) := by decide +kernel
theorem dX5_isFlight_6 : decode cX5_isFlight 6 = .ok (.ireturn, 1) := by decide +kernel
theorem dX5_isDelay_0 : decode cX5_isDelay 0 = .ok (.iload_n 0, 1) := by decide +kernel
theorem dX5_isDelay_1 : decode cX5_isDelay 1 = .ok (.bipush (-30), 2) := by decide +kernel
theorem dX5_isDelay_3 : decode cX5_isDelay 3 = .ok (.sipush 300, 3) := by decide +kernel
theorem dX5_isDelay_6 : decode cX5_isDelay 6 = .ok (.invokestatic 54, 3) := by decide +kernel
theorem dX5_isDelay_9 : decode cX5_isDelay 9 = .ok (.ireturn, 1) := by decide +kernel
theorem dX5_isVan_0 : decode cX5_isVan 0 = .ok (.iload_n 0, 1) := by decide +kernel
theorem dX5_isVan_1 : decode cX5_isVan 1 = .ok (.iconst 0, 1) := by decide +kernel
theorem dX5_isVan_2 : decode cX5_isVan 2 = .ok (.bipush 7, 2) := by decide +kernel
theorem dX5_isVan_4 : decode cX5_isVan 4 = .ok (.invokestatic 54, 3) := by decide +kernel
theorem dX5_isVan_7 : decode cX5_isVan 7 = .ok (.ireturn, 1) := by decide +kernel
theorem dX5_isRider_0 : decode cX5_isRider 0 = .ok (.iload_n 1, 1) := by decide +kernel
theorem dX5_isRider_1 : decode cX5_isRider 1 = .ok (.iconst 0, 1) := by decide +kernel
theorem dX5_isRider_2 : decode cX5_isRider 2 = .ok (.aload_n 0, 1) := by decide +kernel
theorem dX5_isRider_3 : decode cX5_isRider 3 = .ok (.getfield 10, 3) := by decide +kernel
theorem dX5_isRider_6 : decode cX5_isRider 6 = .ok (.getfield 105, 3) := by decide +kernel
theorem dX5_isRider_9 : decode cX5_isRider 9 = .ok (.iconst 1, 1) := by decide +kernel
theorem dX5_isRider_10 : decode cX5_isRider 10 = .ok (.isub, 1) := by decide +kernel
theorem dX5_isRider_11 : decode cX5_isRider 11 = .ok (.invokestatic 54, 3) := by decide +kernel
theorem dX5_isRider_14 : decode cX5_isRider 14 = .ok (.ireturn, 1) := by decide +kernel
theorem dX5_minuteAtDoor_0 : decode cX5_minuteAtDoor 0 = .ok (.aload_n 0, 1) := by decide +kernel
theorem dX5_minuteAtDoor_1 : decode cX5_minuteAtDoor 1 = .ok (.getfield 19, 3) := by decide +kernel
theorem dX5_minuteAtDoor_4 : decode cX5_minuteAtDoor 4 = .ok (.getfield 139, 3) := by decide +kernel
theorem dX5_minuteAtDoor_7 : decode cX5_minuteAtDoor 7 = .ok (.iload_n 1, 1) := by decide +kernel
theorem dX5_minuteAtDoor_8 : decode cX5_minuteAtDoor 8 = .ok (.iaload, 1) := by decide +kernel
theorem dX5_minuteAtDoor_9 : decode cX5_minuteAtDoor 9 = .ok (.istore_n 2, 1) := by decide +kernel
theorem dX5_minuteAtDoor_10 : decode cX5_minuteAtDoor 10 = .ok (.iload_n 2, 1) := by decide +kernel
theorem dX5_minuteAtDoor_11 : decode cX5_minuteAtDoor 11 = .ok (.invokestatic 92, 3) := by decide +kernel
theorem dX5_minuteAtDoor_14 : decode cX5_minuteAtDoor 14 = .ok (.ifCond .ne 6, 3) := by decide +kernel
theorem dX5_minuteAtDoor_17 : decode cX5_minuteAtDoor 17 = .ok (.bipush (-106), 2) := by decide +kernel
theorem dX5_minuteAtDoor_19 : decode cX5_minuteAtDoor 19 = .ok (.ireturn, 1) := by decide +kernel
theorem dX5_minuteAtDoor_20 : decode cX5_minuteAtDoor 20 = .ok (.aload_n 0, 1) := by decide +kernel
theorem dX5_minuteAtDoor_21 : decode cX5_minuteAtDoor 21 = .ok (.getfield 26, 3) := by decide +kernel
theorem dX5_minuteAtDoor_24 : decode cX5_minuteAtDoor 24 = .ok (.aload_n 0, 1) := by decide +kernel
theorem dX5_minuteAtDoor_25 : decode cX5_minuteAtDoor 25 = .ok (.getfield 10, 3) := by decide +kernel
theorem dX5_minuteAtDoor_28 : decode cX5_minuteAtDoor 28 = .ok (.aload_n 0, 1) := by decide +kernel
theorem dX5_minuteAtDoor_29 : decode cX5_minuteAtDoor 29 = .ok (.getfield 19, 3) := by decide +kernel
theorem dX5_minuteAtDoor_32 : decode cX5_minuteAtDoor 32 = .ok (.iload_n 2, 1) := by decide +kernel
theorem dX5_minuteAtDoor_33 : decode cX5_minuteAtDoor 33 = .ok (.invokevirtual 163, 3) := by decide +kernel
theorem dX5_minuteAtDoor_36 : decode cX5_minuteAtDoor 36 = .ok (.aload_n 0, 1) := by decide +kernel
theorem dX5_minuteAtDoor_37 : decode cX5_minuteAtDoor 37 = .ok (.getfield 26, 3) := by decide +kernel
theorem dX5_minuteAtDoor_40 : decode cX5_minuteAtDoor 40 = .ok (.aload_n 0, 1) := by decide +kernel
theorem dX5_minuteAtDoor_41 : decode cX5_minuteAtDoor 41 = .ok (.getfield 10, 3) := by decide +kernel
theorem dX5_minuteAtDoor_44 : decode cX5_minuteAtDoor 44 = .ok (.iload_n 1, 1) := by decide +kernel
theorem dX5_minuteAtDoor_45 : decode cX5_minuteAtDoor 45 = .ok (.invokevirtual 254, 3) := by decide +kernel
theorem dX5_minuteAtDoor_48 : decode cX5_minuteAtDoor 48 = .ok (.invokevirtual 257, 3) := by decide +kernel
theorem dX5_minuteAtDoor_51 : decode cX5_minuteAtDoor 51 = .ok (.ireturn, 1) := by decide +kernel
theorem dX5_allFares_0 : decode cX5_allFares 0 = .ok (.iconst 0, 1) := by decide +kernel
theorem dX5_allFares_1 : decode cX5_allFares 1 = .ok (.istore_n 1, 1) := by decide +kernel
theorem dX5_allFares_2 : decode cX5_allFares 2 = .ok (.iconst 0, 1) := by decide +kernel
theorem dX5_allFares_3 : decode cX5_allFares 3 = .ok (.istore_n 2, 1) := by decide +kernel
theorem dX5_allFares_4 : decode cX5_allFares 4 = .ok (.iload_n 2, 1) := by decide +kernel
theorem dX5_allFares_5 : decode cX5_allFares 5 = .ok (.aload_n 0, 1) := by decide +kernel
theorem dX5_allFares_6 : decode cX5_allFares 6 = .ok (.getfield 10, 3) := by decide +kernel
theorem dX5_allFares_9 : decode cX5_allFares 9 = .ok (.getfield 105, 3) := by decide +kernel
theorem dX5_allFares_12 : decode cX5_allFares 12 = .ok (.if_icmp .ge 24, 3) := by decide +kernel
theorem dX5_allFares_15 : decode cX5_allFares 15 = .ok (.iload_n 1, 1) := by decide +kernel
theorem dX5_allFares_16 : decode cX5_allFares 16 = .ok (.aload_n 0, 1) := by decide +kernel
theorem dX5_allFares_17 : decode cX5_allFares 17 = .ok (.getfield 19, 3) := by decide +kernel
theorem dX5_allFares_20 : decode cX5_allFares 20 = .ok (.aload_n 0, 1) := by decide +kernel
theorem dX5_allFares_21 : decode cX5_allFares 21 = .ok (.getfield 10, 3) := by decide +kernel
theorem dX5_allFares_24 : decode cX5_allFares 24 = .ok (.iload_n 2, 1) := by decide +kernel
theorem dX5_allFares_25 : decode cX5_allFares 25 = .ok (.invokevirtual 128, 3) := by decide +kernel
theorem dX5_allFares_28 : decode cX5_allFares 28 = .ok (.iadd, 1) := by decide +kernel
theorem dX5_allFares_29 : decode cX5_allFares 29 = .ok (.istore_n 1, 1) := by decide +kernel
theorem dX5_allFares_30 : decode cX5_allFares 30 = .ok (.iinc 2 1, 3) := by decide +kernel
theorem dX5_allFares_33 : decode cX5_allFares 33 = .ok (.goto (-29), 3) := by decide +kernel
theorem dX5_allFares_36 : decode cX5_allFares 36 = .ok (.iload_n 1, 1) := by decide +kernel
theorem dX5_allFares_37 : decode cX5_allFares 37 = .ok (.ireturn, 1) := by decide +kernel
theorem dX5_allStops_0 : decode cX5_allStops 0 = .ok (.iconst 0, 1) := by decide +kernel
theorem dX5_allStops_1 : decode cX5_allStops 1 = .ok (.istore_n 1, 1) := by decide +kernel
theorem dX5_allStops_2 : decode cX5_allStops 2 = .ok (.iconst 0, 1) := by decide +kernel
theorem dX5_allStops_3 : decode cX5_allStops 3 = .ok (.istore_n 2, 1) := by decide +kernel
theorem dX5_allStops_4 : decode cX5_allStops 4 = .ok (.iload_n 2, 1) := by decide +kernel
theorem dX5_allStops_5 : decode cX5_allStops 5 = .ok (.bipush 8, 2) := by decide +kernel
theorem dX5_allStops_7 : decode cX5_allStops 7 = .ok (.if_icmp .ge 35, 3) := by decide +kernel
theorem dX5_allStops_10 : decode cX5_allStops 10 = .ok (.aload_n 0, 1) := by decide +kernel
theorem dX5_allStops_11 : decode cX5_allStops 11 = .ok (.getfield 26, 3) := by decide +kernel
theorem dX5_allStops_14 : decode cX5_allStops 14 = .ok (.aload_n 0, 1) := by decide +kernel
theorem dX5_allStops_15 : decode cX5_allStops 15 = .ok (.getfield 10, 3) := by decide +kernel
theorem dX5_allStops_18 : decode cX5_allStops 18 = .ok (.aload_n 0, 1) := by decide +kernel
theorem dX5_allStops_19 : decode cX5_allStops 19 = .ok (.getfield 19, 3) := by decide +kernel
theorem dX5_allStops_22 : decode cX5_allStops 22 = .ok (.iload_n 2, 1) := by decide +kernel
theorem dX5_allStops_23 : decode cX5_allStops 23 = .ok (.invokevirtual 163, 3) := by decide +kernel
theorem dX5_allStops_26 : decode cX5_allStops 26 = .ok (.iload_n 1, 1) := by decide +kernel
theorem dX5_allStops_27 : decode cX5_allStops 27 = .ok (.aload_n 0, 1) := by decide +kernel
theorem dX5_allStops_28 : decode cX5_allStops 28 = .ok (.getfield 26, 3) := by decide +kernel
theorem dX5_allStops_31 : decode cX5_allStops 31 = .ok (.getfield 176, 3) := by decide +kernel
theorem dX5_allStops_34 : decode cX5_allStops 34 = .ok (.iadd, 1) := by decide +kernel
theorem dX5_allStops_35 : decode cX5_allStops 35 = .ok (.istore_n 1, 1) := by decide +kernel
theorem dX5_allStops_36 : decode cX5_allStops 36 = .ok (.iinc 2 1, 3) := by decide +kernel
theorem dX5_allStops_39 : decode cX5_allStops 39 = .ok (.goto (-35), 3) := by decide +kernel
theorem dX5_allStops_42 : decode cX5_allStops 42 = .ok (.iload_n 1, 1) := by decide +kernel
theorem dX5_allStops_43 : decode cX5_allStops 43 = .ok (.ireturn, 1) := by decide +kernel
theorem dX5_lastAtDoor_0 : decode cX5_lastAtDoor 0 = .ok (.bipush (-106), 2) := by decide +kernel
theorem dX5_lastAtDoor_2 : decode cX5_lastAtDoor 2 = .ok (.istore_n 3, 1) := by decide +kernel
theorem dX5_lastAtDoor_3 : decode cX5_lastAtDoor 3 = .ok (.iconst 0, 1) := by decide +kernel
theorem dX5_lastAtDoor_4 : decode cX5_lastAtDoor 4 = .ok (.istore 4, 2) := by decide +kernel
theorem dX5_lastAtDoor_6 : decode cX5_lastAtDoor 6 = .ok (.iload 4, 2) := by decide +kernel
theorem dX5_lastAtDoor_8 : decode cX5_lastAtDoor 8 = .ok (.bipush 8, 2) := by decide +kernel
theorem dX5_lastAtDoor_10 : decode cX5_lastAtDoor 10 = .ok (.if_icmp .ge 42, 3) := by decide +kernel
theorem dX5_lastAtDoor_13 : decode cX5_lastAtDoor 13 = .ok (.aload_n 0, 1) := by decide +kernel
theorem dX5_lastAtDoor_14 : decode cX5_lastAtDoor 14 = .ok (.getfield 26, 3) := by decide +kernel
theorem dX5_lastAtDoor_17 : decode cX5_lastAtDoor 17 = .ok (.aload_n 1, 1) := by decide +kernel
theorem dX5_lastAtDoor_18 : decode cX5_lastAtDoor 18 = .ok (.aload_n 2, 1) := by decide +kernel
theorem dX5_lastAtDoor_19 : decode cX5_lastAtDoor 19 = .ok (.iload 4, 2) := by decide +kernel
theorem dX5_lastAtDoor_21 : decode cX5_lastAtDoor 21 = .ok (.invokevirtual 163, 3) := by decide +kernel
theorem dX5_lastAtDoor_24 : decode cX5_lastAtDoor 24 = .ok (.aload_n 0, 1) := by decide +kernel
theorem dX5_lastAtDoor_25 : decode cX5_lastAtDoor 25 = .ok (.getfield 26, 3) := by decide +kernel
theorem dX5_lastAtDoor_28 : decode cX5_lastAtDoor 28 = .ok (.getfield 176, 3) := by decide +kernel
theorem dX5_lastAtDoor_31 : decode cX5_lastAtDoor 31 = .ok (.ifCond .le 15, 3) := by decide +kernel
theorem dX5_lastAtDoor_34 : decode cX5_lastAtDoor 34 = .ok (.iload_n 3, 1) := by decide +kernel
theorem dX5_lastAtDoor_35 : decode cX5_lastAtDoor 35 = .ok (.aload_n 0, 1) := by decide +kernel
theorem dX5_lastAtDoor_36 : decode cX5_lastAtDoor 36 = .ok (.getfield 26, 3) := by decide +kernel
theorem dX5_lastAtDoor_39 : decode cX5_lastAtDoor 39 = .ok (.invokevirtual 179, 3) := by decide +kernel
theorem dX5_lastAtDoor_42 : decode cX5_lastAtDoor 42 = .ok (.invokestatic 260, 3) := by decide +kernel
theorem dX5_lastAtDoor_45 : decode cX5_lastAtDoor 45 = .ok (.istore_n 3, 1) := by decide +kernel
theorem dX5_lastAtDoor_46 : decode cX5_lastAtDoor 46 = .ok (.iinc 4 1, 3) := by decide +kernel
theorem dX5_lastAtDoor_49 : decode cX5_lastAtDoor 49 = .ok (.goto (-43), 3) := by decide +kernel
theorem dX5_lastAtDoor_52 : decode cX5_lastAtDoor 52 = .ok (.iload_n 3, 1) := by decide +kernel
theorem dX5_lastAtDoor_53 : decode cX5_lastAtDoor 53 = .ok (.ireturn, 1) := by decide +kernel
theorem dJ6_bitCount_0f7a4_0 : decode cJ6_bitCount_0f7a4 0 = .ok (.iload_n 0, 1) := by decide +kernel
theorem dJ6_bitCount_0f7a4_1 : decode cJ6_bitCount_0f7a4 1 = .ok (.iload_n 0, 1) := by decide +kernel
theorem dJ6_bitCount_0f7a4_2 : decode cJ6_bitCount_0f7a4 2 = .ok (.iconst 1, 1) := by decide +kernel
theorem dJ6_bitCount_0f7a4_3 : decode cJ6_bitCount_0f7a4 3 = .ok (.iushr, 1) := by decide +kernel
theorem dJ6_bitCount_0f7a4_4 : decode cJ6_bitCount_0f7a4 4 = .ok (.ldc_w 265, 3) := by decide +kernel
theorem dJ6_bitCount_0f7a4_7 : decode cJ6_bitCount_0f7a4 7 = .ok (.iand, 1) := by decide +kernel
theorem dJ6_bitCount_0f7a4_8 : decode cJ6_bitCount_0f7a4 8 = .ok (.isub, 1) := by decide +kernel
theorem dJ6_bitCount_0f7a4_9 : decode cJ6_bitCount_0f7a4 9 = .ok (.istore_n 0, 1) := by decide +kernel
theorem dJ6_bitCount_0f7a4_10 : decode cJ6_bitCount_0f7a4 10 = .ok (.iload_n 0, 1) := by decide +kernel
theorem dJ6_bitCount_0f7a4_11 : decode cJ6_bitCount_0f7a4 11 = .ok (.ldc_w 266, 3) := by decide +kernel
theorem dJ6_bitCount_0f7a4_14 : decode cJ6_bitCount_0f7a4 14 = .ok (.iand, 1) := by decide +kernel
theorem dJ6_bitCount_0f7a4_15 : decode cJ6_bitCount_0f7a4 15 = .ok (.iload_n 0, 1) := by decide +kernel
theorem dJ6_bitCount_0f7a4_16 : decode cJ6_bitCount_0f7a4 16 = .ok (.iconst 2, 1) := by decide +kernel
theorem dJ6_bitCount_0f7a4_17 : decode cJ6_bitCount_0f7a4 17 = .ok (.iushr, 1) := by decide +kernel
theorem dJ6_bitCount_0f7a4_18 : decode cJ6_bitCount_0f7a4 18 = .ok (.ldc_w 266, 3) := by decide +kernel
theorem dJ6_bitCount_0f7a4_21 : decode cJ6_bitCount_0f7a4 21 = .ok (.iand, 1) := by decide +kernel
theorem dJ6_bitCount_0f7a4_22 : decode cJ6_bitCount_0f7a4 22 = .ok (.iadd, 1) := by decide +kernel
theorem dJ6_bitCount_0f7a4_23 : decode cJ6_bitCount_0f7a4 23 = .ok (.istore_n 0, 1) := by decide +kernel
theorem dJ6_bitCount_0f7a4_24 : decode cJ6_bitCount_0f7a4 24 = .ok (.iload_n 0, 1) := by decide +kernel
theorem dJ6_bitCount_0f7a4_25 : decode cJ6_bitCount_0f7a4 25 = .ok (.iload_n 0, 1) := by decide +kernel
theorem dJ6_bitCount_0f7a4_26 : decode cJ6_bitCount_0f7a4 26 = .ok (.iconst 4, 1) := by decide +kernel
theorem dJ6_bitCount_0f7a4_27 : decode cJ6_bitCount_0f7a4 27 = .ok (.iushr, 1) := by decide +kernel
theorem dJ6_bitCount_0f7a4_28 : decode cJ6_bitCount_0f7a4 28 = .ok (.iadd, 1) := by decide +kernel
theorem dJ6_bitCount_0f7a4_29 : decode cJ6_bitCount_0f7a4 29 = .ok (.ldc_w 267, 3) := by decide +kernel
theorem dJ6_bitCount_0f7a4_32 : decode cJ6_bitCount_0f7a4 32 = .ok (.iand, 1) := by decide +kernel
theorem dJ6_bitCount_0f7a4_33 : decode cJ6_bitCount_0f7a4 33 = .ok (.istore_n 0, 1) := by decide +kernel
theorem dJ6_bitCount_0f7a4_34 : decode cJ6_bitCount_0f7a4 34 = .ok (.iload_n 0, 1) := by decide +kernel
theorem dJ6_bitCount_0f7a4_35 : decode cJ6_bitCount_0f7a4 35 = .ok (.iload_n 0, 1) := by decide +kernel
theorem dJ6_bitCount_0f7a4_36 : decode cJ6_bitCount_0f7a4 36 = .ok (.bipush 8, 2) := by decide +kernel
theorem dJ6_bitCount_0f7a4_38 : decode cJ6_bitCount_0f7a4 38 = .ok (.iushr, 1) := by decide +kernel
theorem dJ6_bitCount_0f7a4_39 : decode cJ6_bitCount_0f7a4 39 = .ok (.iadd, 1) := by decide +kernel
theorem dJ6_bitCount_0f7a4_40 : decode cJ6_bitCount_0f7a4 40 = .ok (.istore_n 0, 1) := by decide +kernel
theorem dJ6_bitCount_0f7a4_41 : decode cJ6_bitCount_0f7a4 41 = .ok (.iload_n 0, 1) := by decide +kernel
theorem dJ6_bitCount_0f7a4_42 : decode cJ6_bitCount_0f7a4 42 = .ok (.iload_n 0, 1) := by decide +kernel
theorem dJ6_bitCount_0f7a4_43 : decode cJ6_bitCount_0f7a4 43 = .ok (.bipush 16, 2) := by decide +kernel
theorem dJ6_bitCount_0f7a4_45 : decode cJ6_bitCount_0f7a4 45 = .ok (.iushr, 1) := by decide +kernel
theorem dJ6_bitCount_0f7a4_46 : decode cJ6_bitCount_0f7a4 46 = .ok (.iadd, 1) := by decide +kernel
theorem dJ6_bitCount_0f7a4_47 : decode cJ6_bitCount_0f7a4 47 = .ok (.istore_n 0, 1) := by decide +kernel
theorem dJ6_bitCount_0f7a4_48 : decode cJ6_bitCount_0f7a4 48 = .ok (.iload_n 0, 1) := by decide +kernel
theorem dJ6_bitCount_0f7a4_49 : decode cJ6_bitCount_0f7a4 49 = .ok (.bipush 63, 2) := by decide +kernel
theorem dJ6_bitCount_0f7a4_51 : decode cJ6_bitCount_0f7a4 51 = .ok (.iand, 1) := by decide +kernel
theorem dJ6_bitCount_0f7a4_52 : decode cJ6_bitCount_0f7a4 52 = .ok (.ireturn, 1) := by decide +kernel
theorem dJ9_max_7cf53_0 : decode cJ9_max_7cf53 0 = .ok (.iload_n 0, 1) := by decide +kernel
theorem dJ9_max_7cf53_1 : decode cJ9_max_7cf53 1 = .ok (.iload_n 1, 1) := by decide +kernel
theorem dJ9_max_7cf53_2 : decode cJ9_max_7cf53 2 = .ok (.if_icmp .lt 7, 3) := by decide +kernel
theorem dJ9_max_7cf53_5 : decode cJ9_max_7cf53 5 = .ok (.iload_n 0, 1) := by decide +kernel
theorem dJ9_max_7cf53_6 : decode cJ9_max_7cf53 6 = .ok (.goto 4, 3) := by decide +kernel
theorem dJ9_max_7cf53_9 : decode cJ9_max_7cf53 9 = .ok (.iload_n 1, 1) := by decide +kernel
theorem dJ9_max_7cf53_10 : decode cJ9_max_7cf53 10 = .ok (.ireturn, 1) := by decide +kernel
theorem dL_cell_0 : decode cL_cell 0 = .ok (.iload_n 1, 1) := by decide +kernel
theorem dL_cell_1 : decode cL_cell 1 = .ok (.aload_n 0, 1) := by decide +kernel
theorem dL_cell_2 : decode cL_cell 2 = .ok (.arraylength, 1) := by decide +kernel
theorem dL_cell_3 : decode cL_cell 3 = .ok (.if_icmp .ge 9, 3) := by decide +kernel
theorem dL_cell_6 : decode cL_cell 6 = .ok (.aload_n 0, 1) := by decide +kernel
theorem dL_cell_7 : decode cL_cell 7 = .ok (.iload_n 1, 1) := by decide +kernel
theorem dL_cell_8 : decode cL_cell 8 = .ok (.iaload, 1) := by decide +kernel
theorem dL_cell_9 : decode cL_cell 9 = .ok (.goto 12, 3) := by decide +kernel
theorem dL_cell_12 : decode cL_cell 12 = .ok (.ldc 7, 2) := by decide +kernel
theorem dL_cell_14 : decode cL_cell 14 = .ok (.iload_n 1, 1) := by decide +kernel
theorem dL_cell_15 : decode cL_cell 15 = .ok (.iconst 5, 1) := by decide +kernel
theorem dL_cell_16 : decode cL_cell 16 = .ok (.iadd, 1) := by decide +kernel
theorem dL_cell_17 : decode cL_cell 17 = .ok (.imul, 1) := by decide +kernel
theorem dL_cell_18 : decode cL_cell 18 = .ok (.ldc 8, 2) := by decide +kernel
theorem dL_cell_20 : decode cL_cell 20 = .ok (.iadd, 1) := by decide +kernel
theorem dL_cell_21 : decode cL_cell 21 = .ok (.ireturn, 1) := by decide +kernel
theorem dL_low_0 : decode cL_low 0 = .ok (.iload_n 0, 1) := by decide +kernel
theorem dL_low_1 : decode cL_low 1 = .ok (.ldc 9, 2) := by decide +kernel
theorem dL_low_3 : decode cL_low 3 = .ok (.iand, 1) := by decide +kernel
theorem dL_low_4 : decode cL_low 4 = .ok (.iload_n 1, 1) := by decide +kernel
