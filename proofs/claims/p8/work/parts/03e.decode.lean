theorem dX6_steps_42 : decode cX6_steps 42 = .ok (.goto 4, 3) := by decide +kernel
theorem dX6_steps_45 : decode cX6_steps 45 = .ok (.iconst 0, 1) := by decide +kernel
theorem dX6_steps_46 : decode cX6_steps 46 = .ok (.iadd, 1) := by decide +kernel
theorem dX6_steps_47 : decode cX6_steps 47 = .ok (.istore_n 1, 1) := by decide +kernel
theorem dX6_steps_48 : decode cX6_steps 48 = .ok (.iload_n 2, 1) := by decide +kernel
theorem dX6_steps_49 : decode cX6_steps 49 = .ok (.aload_n 0, 1) := by decide +kernel
theorem dX6_steps_50 : decode cX6_steps 50 = .ok (.getfield 28, 3) := by decide +kernel
theorem dX6_steps_53 : decode cX6_steps 53 = .ok (.iload 5, 2) := by decide +kernel
theorem dX6_steps_55 : decode cX6_steps 55 = .ok (.iaload, 1) := by decide +kernel
theorem dX6_steps_56 : decode cX6_steps 56 = .ok (.aload_n 0, 1) := by decide +kernel
theorem dX6_steps_57 : decode cX6_steps 57 = .ok (.getfield 28, 3) := by decide +kernel
theorem dX6_steps_60 : decode cX6_steps 60 = .ok (.iload 5, 2) := by decide +kernel
theorem dX6_steps_62 : decode cX6_steps 62 = .ok (.iconst 1, 1) := by decide +kernel
theorem dX6_steps_63 : decode cX6_steps 63 = .ok (.isub, 1) := by decide +kernel
theorem dX6_steps_64 : decode cX6_steps 64 = .ok (.iaload, 1) := by decide +kernel
theorem dX6_steps_65 : decode cX6_steps 65 = .ok (.if_icmp .le 7, 3) := by decide +kernel
theorem dX6_steps_68 : decode cX6_steps 68 = .ok (.iconst 1, 1) := by decide +kernel
theorem dX6_steps_69 : decode cX6_steps 69 = .ok (.goto 4, 3) := by decide +kernel
theorem dX6_steps_72 : decode cX6_steps 72 = .ok (.iconst 0, 1) := by decide +kernel
theorem dX6_steps_73 : decode cX6_steps 73 = .ok (.iadd, 1) := by decide +kernel
theorem dX6_steps_74 : decode cX6_steps 74 = .ok (.istore_n 2, 1) := by decide +kernel
theorem dX6_steps_75 : decode cX6_steps 75 = .ok (.aload_n 0, 1) := by decide +kernel
theorem dX6_steps_76 : decode cX6_steps 76 = .ok (.getfield 28, 3) := by decide +kernel
theorem dX6_steps_79 : decode cX6_steps 79 = .ok (.iload 5, 2) := by decide +kernel
theorem dX6_steps_81 : decode cX6_steps 81 = .ok (.iaload, 1) := by decide +kernel
theorem dX6_steps_82 : decode cX6_steps 82 = .ok (.aload_n 0, 1) := by decide +kernel
theorem dX6_steps_83 : decode cX6_steps 83 = .ok (.getfield 28, 3) := by decide +kernel
theorem dX6_steps_86 : decode cX6_steps 86 = .ok (.iload 5, 2) := by decide +kernel
theorem dX6_steps_88 : decode cX6_steps 88 = .ok (.iconst 1, 1) := by decide +kernel
theorem dX6_steps_89 : decode cX6_steps 89 = .ok (.isub, 1) := by decide +kernel
theorem dX6_steps_90 : decode cX6_steps 90 = .ok (.iaload, 1) := by decide +kernel
theorem dX6_steps_91 : decode cX6_steps 91 = .ok (.if_icmp .ge 7, 3) := by decide +kernel
theorem dX6_steps_94 : decode cX6_steps 94 = .ok (.iconst 1, 1) := by decide +kernel
theorem dX6_steps_95 : decode cX6_steps 95 = .ok (.goto 6, 3) := by decide +kernel
theorem dX6_steps_98 : decode cX6_steps 98 = .ok (.iload_n 3, 1) := by decide +kernel
theorem dX6_steps_99 : decode cX6_steps 99 = .ok (.iconst 1, 1) := by decide +kernel
theorem dX6_steps_100 : decode cX6_steps 100 = .ok (.iadd, 1) := by decide +kernel
theorem dX6_steps_101 : decode cX6_steps 101 = .ok (.istore_n 3, 1) := by decide +kernel
theorem dX6_steps_102 : decode cX6_steps 102 = .ok (.iload_n 3, 1) := by decide +kernel
theorem dX6_steps_103 : decode cX6_steps 103 = .ok (.iload 4, 2) := by decide +kernel
theorem dX6_steps_105 : decode cX6_steps 105 = .ok (.if_icmp .le 6, 3) := by decide +kernel
theorem dX6_steps_108 : decode cX6_steps 108 = .ok (.iload_n 3, 1) := by decide +kernel
theorem dX6_steps_109 : decode cX6_steps 109 = .ok (.istore 4, 2) := by decide +kernel
theorem dX6_steps_111 : decode cX6_steps 111 = .ok (.iinc 5 1, 3) := by decide +kernel
theorem dX6_steps_114 : decode cX6_steps 114 = .ok (.goto (-102), 3) := by decide +kernel
theorem dX6_steps_117 : decode cX6_steps 117 = .ok (.aload_n 0, 1) := by decide +kernel
theorem dX6_steps_118 : decode cX6_steps 118 = .ok (.getfield 31, 3) := by decide +kernel
theorem dX6_steps_121 : decode cX6_steps 121 = .ok (.iconst 0, 1) := by decide +kernel
theorem dX6_steps_122 : decode cX6_steps 122 = .ok (.iload_n 1, 1) := by decide +kernel
theorem dX6_steps_123 : decode cX6_steps 123 = .ok (.iastore, 1) := by decide +kernel
theorem dX6_steps_124 : decode cX6_steps 124 = .ok (.aload_n 0, 1) := by decide +kernel
theorem dX6_steps_125 : decode cX6_steps 125 = .ok (.getfield 31, 3) := by decide +kernel
theorem dX6_steps_128 : decode cX6_steps 128 = .ok (.iconst 1, 1) := by decide +kernel
theorem dX6_steps_129 : decode cX6_steps 129 = .ok (.iload_n 2, 1) := by decide +kernel
theorem dX6_steps_130 : decode cX6_steps 130 = .ok (.iastore, 1) := by decide +kernel
theorem dX6_steps_131 : decode cX6_steps 131 = .ok (.aload_n 0, 1) := by decide +kernel
theorem dX6_steps_132 : decode cX6_steps 132 = .ok (.getfield 31, 3) := by decide +kernel
theorem dX6_steps_135 : decode cX6_steps 135 = .ok (.iconst 2, 1) := by decide +kernel
theorem dX6_steps_136 : decode cX6_steps 136 = .ok (.aload_n 0, 1) := by decide +kernel
theorem dX6_steps_137 : decode cX6_steps 137 = .ok (.getfield 28, 3) := by decide +kernel
theorem dX6_steps_140 : decode cX6_steps 140 = .ok (.iconst 0, 1) := by decide +kernel
theorem dX6_steps_141 : decode cX6_steps 141 = .ok (.iaload, 1) := by decide +kernel
theorem dX6_steps_142 : decode cX6_steps 142 = .ok (.iastore, 1) := by decide +kernel
theorem dX6_steps_143 : decode cX6_steps 143 = .ok (.aload_n 0, 1) := by decide +kernel
theorem dX6_steps_144 : decode cX6_steps 144 = .ok (.getfield 31, 3) := by decide +kernel
theorem dX6_steps_147 : decode cX6_steps 147 = .ok (.iconst 3, 1) := by decide +kernel
theorem dX6_steps_148 : decode cX6_steps 148 = .ok (.aload_n 0, 1) := by decide +kernel
theorem dX6_steps_149 : decode cX6_steps 149 = .ok (.getfield 28, 3) := by decide +kernel
theorem dX6_steps_152 : decode cX6_steps 152 = .ok (.aload_n 0, 1) := by decide +kernel
theorem dX6_steps_153 : decode cX6_steps 153 = .ok (.getfield 105, 3) := by decide +kernel
theorem dX6_steps_156 : decode cX6_steps 156 = .ok (.iconst 1, 1) := by decide +kernel
theorem dX6_steps_157 : decode cX6_steps 157 = .ok (.isub, 1) := by decide +kernel
theorem dX6_steps_158 : decode cX6_steps 158 = .ok (.iaload, 1) := by decide +kernel
theorem dX6_steps_159 : decode cX6_steps 159 = .ok (.iastore, 1) := by decide +kernel
theorem dX6_steps_160 : decode cX6_steps 160 = .ok (.aload_n 0, 1) := by decide +kernel
theorem dX6_steps_161 : decode cX6_steps 161 = .ok (.getfield 31, 3) := by decide +kernel
theorem dX6_steps_164 : decode cX6_steps 164 = .ok (.iconst 4, 1) := by decide +kernel
theorem dX6_steps_165 : decode cX6_steps 165 = .ok (.iload 4, 2) := by decide +kernel
theorem dX6_steps_167 : decode cX6_steps 167 = .ok (.iastore, 1) := by decide +kernel
theorem dX6_steps_168 : decode cX6_steps 168 = .ok (.return_, 1) := by decide +kernel
theorem dX6_spread_0 : decode cX6_spread 0 = .ok (.ldc 160, 2) := by decide +kernel
theorem dX6_spread_2 : decode cX6_spread 2 = .ok (.istore_n 1, 1) := by decide +kernel
theorem dX6_spread_3 : decode cX6_spread 3 = .ok (.ldc 160, 2) := by decide +kernel
theorem dX6_spread_5 : decode cX6_spread 5 = .ok (.istore_n 2, 1) := by decide +kernel
theorem dX6_spread_6 : decode cX6_spread 6 = .ok (.iconst 0, 1) := by decide +kernel
theorem dX6_spread_7 : decode cX6_spread 7 = .ok (.istore_n 3, 1) := by decide +kernel
theorem dX6_spread_8 : decode cX6_spread 8 = .ok (.iconst 0, 1) := by decide +kernel
theorem dX6_spread_9 : decode cX6_spread 9 = .ok (.istore 4, 2) := by decide +kernel
theorem dX6_spread_11 : decode cX6_spread 11 = .ok (.iload 4, 2) := by decide +kernel
theorem dX6_spread_13 : decode cX6_spread 13 = .ok (.aload_n 0, 1) := by decide +kernel
theorem dX6_spread_14 : decode cX6_spread 14 = .ok (.getfield 105, 3) := by decide +kernel
theorem dX6_spread_17 : decode cX6_spread 17 = .ok (.if_icmp .ge 86, 3) := by decide +kernel
theorem dX6_spread_20 : decode cX6_spread 20 = .ok (.aload_n 0, 1) := by decide +kernel
theorem dX6_spread_21 : decode cX6_spread 21 = .ok (.getfield 28, 3) := by decide +kernel
theorem dX6_spread_24 : decode cX6_spread 24 = .ok (.iload 4, 2) := by decide +kernel
theorem dX6_spread_26 : decode cX6_spread 26 = .ok (.iaload, 1) := by decide +kernel
theorem dX6_spread_27 : decode cX6_spread 27 = .ok (.ifCond .ne 6, 3) := by decide +kernel
theorem dX6_spread_30 : decode cX6_spread 30 = .ok (.iinc 3 1, 3) := by decide +kernel
theorem dX6_spread_33 : decode cX6_spread 33 = .ok (.aload_n 0, 1) := by decide +kernel
theorem dX6_spread_34 : decode cX6_spread 34 = .ok (.getfield 28, 3) := by decide +kernel
theorem dX6_spread_37 : decode cX6_spread 37 = .ok (.iload 4, 2) := by decide +kernel
theorem dX6_spread_39 : decode cX6_spread 39 = .ok (.iaload, 1) := by decide +kernel
theorem dX6_spread_40 : decode cX6_spread 40 = .ok (.ifCond .le 28, 3) := by decide +kernel
theorem dX6_spread_43 : decode cX6_spread 43 = .ok (.iload_n 1, 1) := by decide +kernel
theorem dX6_spread_44 : decode cX6_spread 44 = .ok (.ldc 160, 2) := by decide +kernel
theorem dX6_spread_46 : decode cX6_spread 46 = .ok (.if_icmp .eq 14, 3) := by decide +kernel
theorem dX6_spread_49 : decode cX6_spread 49 = .ok (.aload_n 0, 1) := by decide +kernel
theorem dX6_spread_50 : decode cX6_spread 50 = .ok (.getfield 28, 3) := by decide +kernel
theorem dX6_spread_53 : decode cX6_spread 53 = .ok (.iload 4, 2) := by decide +kernel
theorem dX6_spread_55 : decode cX6_spread 55 = .ok (.iaload, 1) := by decide +kernel
theorem dX6_spread_56 : decode cX6_spread 56 = .ok (.iload_n 1, 1) := by decide +kernel
theorem dX6_spread_57 : decode cX6_spread 57 = .ok (.if_icmp .ge 11, 3) := by decide +kernel
theorem dX6_spread_60 : decode cX6_spread 60 = .ok (.aload_n 0, 1) := by decide +kernel
theorem dX6_spread_61 : decode cX6_spread 61 = .ok (.getfield 28, 3) := by decide +kernel
theorem dX6_spread_64 : decode cX6_spread 64 = .ok (.iload 4, 2) := by decide +kernel
theorem dX6_spread_66 : decode cX6_spread 66 = .ok (.iaload, 1) := by decide +kernel
theorem dX6_spread_67 : decode cX6_spread 67 = .ok (.istore_n 1, 1) := by decide +kernel
theorem dX6_spread_68 : decode cX6_spread 68 = .ok (.aload_n 0, 1) := by decide +kernel
theorem dX6_spread_69 : decode cX6_spread 69 = .ok (.getfield 28, 3) := by decide +kernel
theorem dX6_spread_72 : decode cX6_spread 72 = .ok (.iload 4, 2) := by decide +kernel
theorem dX6_spread_74 : decode cX6_spread 74 = .ok (.iaload, 1) := by decide +kernel
theorem dX6_spread_75 : decode cX6_spread 75 = .ok (.ifCond .ge 22, 3) := by decide +kernel
theorem dX6_spread_78 : decode cX6_spread 78 = .ok (.aload_n 0, 1) := by decide +kernel
theorem dX6_spread_79 : decode cX6_spread 79 = .ok (.getfield 28, 3) := by decide +kernel
theorem dX6_spread_82 : decode cX6_spread 82 = .ok (.iload 4, 2) := by decide +kernel
theorem dX6_spread_84 : decode cX6_spread 84 = .ok (.iaload, 1) := by decide +kernel
theorem dX6_spread_85 : decode cX6_spread 85 = .ok (.iload_n 2, 1) := by decide +kernel
theorem dX6_spread_86 : decode cX6_spread 86 = .ok (.if_icmp .le 11, 3) := by decide +kernel
theorem dX6_spread_89 : decode cX6_spread 89 = .ok (.aload_n 0, 1) := by decide +kernel
theorem dX6_spread_90 : decode cX6_spread 90 = .ok (.getfield 28, 3) := by decide +kernel
theorem dX6_spread_93 : decode cX6_spread 93 = .ok (.iload 4, 2) := by decide +kernel
theorem dX6_spread_95 : decode cX6_spread 95 = .ok (.iaload, 1) := by decide +kernel
theorem dX6_spread_96 : decode cX6_spread 96 = .ok (.istore_n 2, 1) := by decide +kernel
theorem dX6_spread_97 : decode cX6_spread 97 = .ok (.iinc 4 1, 3) := by decide +kernel
theorem dX6_spread_100 : decode cX6_spread 100 = .ok (.goto (-89), 3) := by decide +kernel
theorem dX6_spread_103 : decode cX6_spread 103 = .ok (.aload_n 0, 1) := by decide +kernel
theorem dX6_spread_104 : decode cX6_spread 104 = .ok (.getfield 31, 3) := by decide +kernel
theorem dX6_spread_107 : decode cX6_spread 107 = .ok (.iconst 0, 1) := by decide +kernel
theorem dX6_spread_108 : decode cX6_spread 108 = .ok (.iload_n 1, 1) := by decide +kernel
theorem dX6_spread_109 : decode cX6_spread 109 = .ok (.iastore, 1) := by decide +kernel
theorem dX6_spread_110 : decode cX6_spread 110 = .ok (.aload_n 0, 1) := by decide +kernel
theorem dX6_spread_111 : decode cX6_spread 111 = .ok (.getfield 31, 3) := by decide +kernel
theorem dX6_spread_114 : decode cX6_spread 114 = .ok (.iconst 1, 1) := by decide +kernel
theorem dX6_spread_115 : decode cX6_spread 115 = .ok (.iload_n 2, 1) := by decide +kernel
theorem dX6_spread_116 : decode cX6_spread 116 = .ok (.iastore, 1) := by decide +kernel
theorem dX6_spread_117 : decode cX6_spread 117 = .ok (.aload_n 0, 1) := by decide +kernel
theorem dX6_spread_118 : decode cX6_spread 118 = .ok (.getfield 31, 3) := by decide +kernel
theorem dX6_spread_121 : decode cX6_spread 121 = .ok (.iconst 2, 1) := by decide +kernel
theorem dX6_spread_122 : decode cX6_spread 122 = .ok (.iload_n 3, 1) := by decide +kernel
theorem dX6_spread_123 : decode cX6_spread 123 = .ok (.iastore, 1) := by decide +kernel
theorem dX6_spread_124 : decode cX6_spread 124 = .ok (.return_, 1) := by decide +kernel
theorem dX6_multiply_0 : decode cX6_multiply 0 = .ok (.aload_n 0, 1) := by decide +kernel
theorem dX6_multiply_1 : decode cX6_multiply 1 = .ok (.getfield 28, 3) := by decide +kernel
theorem dX6_multiply_4 : decode cX6_multiply 4 = .ok (.iconst 0, 1) := by decide +kernel
theorem dX6_multiply_5 : decode cX6_multiply 5 = .ok (.iaload, 1) := by decide +kernel
theorem dX6_multiply_6 : decode cX6_multiply 6 = .ok (.iconst 4, 1) := by decide +kernel
theorem dX6_multiply_7 : decode cX6_multiply 7 = .ok (.invokestatic 164, 3) := by decide +kernel
theorem dX6_multiply_10 : decode cX6_multiply 10 = .ok (.istore_n 1, 1) := by decide +kernel
theorem dX6_multiply_11 : decode cX6_multiply 11 = .ok (.iconst 1, 1) := by decide +kernel
theorem dX6_multiply_12 : decode cX6_multiply 12 = .ok (.istore_n 2, 1) := by decide +kernel
theorem dX6_multiply_13 : decode cX6_multiply 13 = .ok (.iload_n 2, 1) := by decide +kernel
theorem dX6_multiply_14 : decode cX6_multiply 14 = .ok (.aload_n 0, 1) := by decide +kernel
theorem dX6_multiply_15 : decode cX6_multiply 15 = .ok (.getfield 105, 3) := by decide +kernel
theorem dX6_multiply_18 : decode cX6_multiply 18 = .ok (.if_icmp .ge 25, 3) := by decide +kernel
theorem dX6_multiply_21 : decode cX6_multiply 21 = .ok (.aload_n 0, 1) := by decide +kernel
theorem dX6_multiply_22 : decode cX6_multiply 22 = .ok (.iload_n 1, 1) := by decide +kernel
theorem dX6_multiply_23 : decode cX6_multiply 23 = .ok (.aload_n 0, 1) := by decide +kernel
theorem dX6_multiply_24 : decode cX6_multiply 24 = .ok (.getfield 28, 3) := by decide +kernel
theorem dX6_multiply_27 : decode cX6_multiply 27 = .ok (.iload_n 2, 1) := by decide +kernel
theorem dX6_multiply_28 : decode cX6_multiply 28 = .ok (.iaload, 1) := by decide +kernel
theorem dX6_multiply_29 : decode cX6_multiply 29 = .ok (.iconst 4, 1) := by decide +kernel
theorem dX6_multiply_30 : decode cX6_multiply 30 = .ok (.invokestatic 164, 3) := by decide +kernel
theorem dX6_multiply_33 : decode cX6_multiply 33 = .ok (.invokevirtual 88, 3) := by decide +kernel
theorem dX6_multiply_36 : decode cX6_multiply 36 = .ok (.istore_n 1, 1) := by decide +kernel
theorem dX6_multiply_37 : decode cX6_multiply 37 = .ok (.iinc 2 1, 3) := by decide +kernel
theorem dX6_multiply_40 : decode cX6_multiply 40 = .ok (.goto (-27), 3) := by decide +kernel
theorem dX6_multiply_43 : decode cX6_multiply 43 = .ok (.aload_n 0, 1) := by decide +kernel
theorem dX6_multiply_44 : decode cX6_multiply 44 = .ok (.getfield 31, 3) := by decide +kernel
theorem dX6_multiply_47 : decode cX6_multiply 47 = .ok (.iconst 0, 1) := by decide +kernel
theorem dX6_multiply_48 : decode cX6_multiply 48 = .ok (.iload_n 1, 1) := by decide +kernel
theorem dX6_multiply_49 : decode cX6_multiply 49 = .ok (.iastore, 1) := by decide +kernel
theorem dX6_multiply_50 : decode cX6_multiply 50 = .ok (.return_, 1) := by decide +kernel
theorem dX6_isReached_0 : decode cX6_isReached 0 = .ok (.iload_n 0, 1) := by decide +kernel
theorem dX6_isReached_1 : decode cX6_isReached 1 = .ok (.ldc 160, 2) := by decide +kernel
theorem dX6_isReached_3 : decode cX6_isReached 3 = .ok (.if_icmp .eq 12, 3) := by decide +kernel
theorem dX6_isReached_6 : decode cX6_isReached 6 = .ok (.iload_n 0, 1) := by decide +kernel
theorem dX6_isReached_7 : decode cX6_isReached 7 = .ok (.iload_n 1, 1) := by decide +kernel
theorem dX6_isReached_8 : decode cX6_isReached 8 = .ok (.if_icmp .lt 7, 3) := by decide +kernel
theorem dX6_isReached_11 : decode cX6_isReached 11 = .ok (.iconst 1, 1) := by decide +kernel
theorem dX6_isReached_12 : decode cX6_isReached 12 = .ok (.goto 4, 3) := by decide +kernel
theorem dX6_isReached_15 : decode cX6_isReached 15 = .ok (.iconst 0, 1) := by decide +kernel
theorem dX6_isReached_16 : decode cX6_isReached 16 = .ok (.ireturn, 1) := by decide +kernel
theorem dX6_open_0 : decode cX6_open 0 = .ok (.iload_n 1, 1) := by decide +kernel
theorem dX6_open_1 : decode cX6_open 1 = .ok (.iconst 0, 1) := by decide +kernel
theorem dX6_open_2 : decode cX6_open 2 = .ok (.iconst 3, 1) := by decide +kernel
theorem dX6_open_3 : decode cX6_open 3 = .ok (.invokestatic 76, 3) := by decide +kernel
theorem dX6_open_6 : decode cX6_open 6 = .ok (.ifCond .eq 34, 3) := by decide +kernel
theorem dX6_open_9 : decode cX6_open 9 = .ok (.iload_n 2, 1) := by decide +kernel
theorem dX6_open_10 : decode cX6_open 10 = .ok (.iconst 0, 1) := by decide +kernel
theorem dX6_open_11 : decode cX6_open 11 = .ok (.bipush 9, 2) := by decide +kernel
theorem dX6_open_13 : decode cX6_open 13 = .ok (.invokestatic 76, 3) := by decide +kernel
theorem dX6_open_16 : decode cX6_open 16 = .ok (.ifCond .eq 24, 3) := by decide +kernel
theorem dX6_open_19 : decode cX6_open 19 = .ok (.iload_n 3, 1) := by decide +kernel
theorem dX6_open_20 : decode cX6_open 20 = .ok (.iconst 0, 1) := by decide +kernel
theorem dX6_open_21 : decode cX6_open 21 = .ok (.iconst 2, 1) := by decide +kernel
theorem dX6_open_22 : decode cX6_open 22 = .ok (.invokestatic 76, 3) := by decide +kernel
theorem dX6_open_25 : decode cX6_open 25 = .ok (.ifCond .eq 15, 3) := by decide +kernel
theorem dX6_open_28 : decode cX6_open 28 = .ok (.iload 5, 2) := by decide +kernel
theorem dX6_open_30 : decode cX6_open 30 = .ok (.iconst 0, 1) := by decide +kernel
theorem dX6_open_31 : decode cX6_open 31 = .ok (.sipush 10000, 3) := by decide +kernel
theorem dX6_open_34 : decode cX6_open 34 = .ok (.invokestatic 76, 3) := by decide +kernel
theorem dX6_open_37 : decode cX6_open 37 = .ok (.ifCond .ne 5, 3) := by decide +kernel
theorem dX6_open_40 : decode cX6_open 40 = .ok (.iconst (-1), 1) := by decide +kernel
theorem dX6_open_41 : decode cX6_open 41 = .ok (.ireturn, 1) := by decide +kernel
theorem dX6_open_42 : decode cX6_open 42 = .ok (.iload_n 3, 1) := by decide +kernel
theorem dX6_open_43 : decode cX6_open 43 = .ok (.iconst 1, 1) := by decide +kernel
theorem dX6_open_44 : decode cX6_open 44 = .ok (.if_icmp .ne 14, 3) := by decide +kernel
theorem dX6_open_47 : decode cX6_open 47 = .ok (.iload 4, 2) := by decide +kernel
theorem dX6_open_49 : decode cX6_open 49 = .ok (.iconst 1, 1) := by decide +kernel
theorem dX6_open_50 : decode cX6_open 50 = .ok (.bipush 120, 2) := by decide +kernel
theorem dX6_open_52 : decode cX6_open 52 = .ok (.invokestatic 76, 3) := by decide +kernel
theorem dX6_open_55 : decode cX6_open 55 = .ok (.ifCond .eq 20, 3) := by decide +kernel
theorem dX6_open_58 : decode cX6_open 58 = .ok (.iload_n 3, 1) := by decide +kernel
theorem dX6_open_59 : decode cX6_open 59 = .ok (.iconst 2, 1) := by decide +kernel
theorem dX6_open_60 : decode cX6_open 60 = .ok (.if_icmp .ne 17, 3) := by decide +kernel
theorem dX6_open_63 : decode cX6_open 63 = .ok (.iload 4, 2) := by decide +kernel
theorem dX6_open_65 : decode cX6_open 65 = .ok (.iconst 1, 1) := by decide +kernel
theorem dX6_open_66 : decode cX6_open 66 = .ok (.sipush 10000, 3) := by decide +kernel
theorem dX6_open_69 : decode cX6_open 69 = .ok (.invokestatic 76, 3) := by decide +kernel
theorem dX6_open_72 : decode cX6_open 72 = .ok (.ifCond .ne 5, 3) := by decide +kernel
theorem dX6_open_75 : decode cX6_open 75 = .ok (.iconst (-1), 1) := by decide +kernel
theorem dX6_open_76 : decode cX6_open 76 = .ok (.ireturn, 1) := by decide +kernel
theorem dX6_open_77 : decode cX6_open 77 = .ok (.iload_n 2, 1) := by decide +kernel
theorem dX6_open_78 : decode cX6_open 78 = .ok (.bipush 9, 2) := by decide +kernel
theorem dX6_open_80 : decode cX6_open 80 = .ok (.if_icmp .ne 12, 3) := by decide +kernel
theorem dX6_open_83 : decode cX6_open 83 = .ok (.aload_n 0, 1) := by decide +kernel
theorem dX6_open_84 : decode cX6_open 84 = .ok (.invokevirtual 98, 3) := by decide +kernel
theorem dX6_open_87 : decode cX6_open 87 = .ok (.ifCond .lt 5, 3) := by decide +kernel
theorem dX6_open_90 : decode cX6_open 90 = .ok (.iconst (-1), 1) := by decide +kernel
theorem dX6_open_91 : decode cX6_open 91 = .ok (.ireturn, 1) := by decide +kernel
theorem dX6_open_92 : decode cX6_open 92 = .ok (.iconst 0, 1) := by decide +kernel
theorem dX6_open_93 : decode cX6_open 93 = .ok (.istore 6, 2) := by decide +kernel
theorem dX6_open_95 : decode cX6_open 95 = .ok (.iload 6, 2) := by decide +kernel
theorem dX6_open_97 : decode cX6_open 97 = .ok (.bipush 22, 2) := by decide +kernel
theorem dX6_open_99 : decode cX6_open 99 = .ok (.if_icmp .ge 17, 3) := by decide +kernel
theorem dX6_open_102 : decode cX6_open 102 = .ok (.aload_n 0, 1) := by decide +kernel
theorem dX6_open_103 : decode cX6_open 103 = .ok (.iload_n 1, 1) := by decide +kernel
theorem dX6_open_104 : decode cX6_open 104 = .ok (.iload 6, 2) := by decide +kernel
theorem dX6_open_106 : decode cX6_open 106 = .ok (.iconst 0, 1) := by decide +kernel
theorem dX6_open_107 : decode cX6_open 107 = .ok (.invokevirtual 173, 3) := by decide +kernel
theorem dX6_open_110 : decode cX6_open 110 = .ok (.iinc 6 1, 3) := by decide +kernel
theorem dX6_open_113 : decode cX6_open 113 = .ok (.goto (-18), 3) := by decide +kernel
theorem dX6_open_116 : decode cX6_open 116 = .ok (.aload_n 0, 1) := by decide +kernel
theorem dX6_open_117 : decode cX6_open 117 = .ok (.iload_n 1, 1) := by decide +kernel
theorem dX6_open_118 : decode cX6_open 118 = .ok (.iconst 0, 1) := by decide +kernel
theorem dX6_open_119 : decode cX6_open 119 = .ok (.iconst 1, 1) := by decide +kernel
theorem dX6_open_120 : decode cX6_open 120 = .ok (.invokevirtual 173, 3) := by decide +kernel
theorem dX6_open_123 : decode cX6_open 123 = .ok (.aload_n 0, 1) := by decide +kernel
theorem dX6_open_124 : decode cX6_open 124 = .ok (.iload_n 1, 1) := by decide +kernel
theorem dX6_open_125 : decode cX6_open 125 = .ok (.iconst 1, 1) := by decide +kernel
theorem dX6_open_126 : decode cX6_open 126 = .ok (.iload_n 2, 1) := by decide +kernel
theorem dX6_open_127 : decode cX6_open 127 = .ok (.invokevirtual 173, 3) := by decide +kernel
theorem dX6_open_130 : decode cX6_open 130 = .ok (.aload_n 0, 1) := by decide +kernel
theorem dX6_open_131 : decode cX6_open 131 = .ok (.iload_n 1, 1) := by decide +kernel
theorem dX6_open_132 : decode cX6_open 132 = .ok (.iconst 2, 1) := by decide +kernel
theorem dX6_open_133 : decode cX6_open 133 = .ok (.iload_n 3, 1) := by decide +kernel
theorem dX6_open_134 : decode cX6_open 134 = .ok (.invokevirtual 173, 3) := by decide +kernel
theorem dX6_open_137 : decode cX6_open 137 = .ok (.aload_n 0, 1) := by decide +kernel
theorem dX6_open_138 : decode cX6_open 138 = .ok (.iload_n 1, 1) := by decide +kernel
theorem dX6_open_139 : decode cX6_open 139 = .ok (.iconst 3, 1) := by decide +kernel
theorem dX6_open_140 : decode cX6_open 140 = .ok (.iload_n 3, 1) := by decide +kernel
theorem dX6_open_141 : decode cX6_open 141 = .ok (.ifCond .ne 7, 3) := by decide +kernel
theorem dX6_open_144 : decode cX6_open 144 = .ok (.iconst 0, 1) := by decide +kernel
theorem dX6_open_145 : decode cX6_open 145 = .ok (.goto 5, 3) := by decide +kernel
theorem dX6_open_148 : decode cX6_open 148 = .ok (.iload 4, 2) := by decide +kernel
theorem dX6_open_150 : decode cX6_open 150 = .ok (.invokevirtual 173, 3) := by decide +kernel
theorem dX6_open_153 : decode cX6_open 153 = .ok (.aload_n 0, 1) := by decide +kernel
theorem dX6_open_154 : decode cX6_open 154 = .ok (.iload_n 1, 1) := by decide +kernel
theorem dX6_open_155 : decode cX6_open 155 = .ok (.iconst 4, 1) := by decide +kernel
theorem dX6_open_156 : decode cX6_open 156 = .ok (.iload 5, 2) := by decide +kernel
theorem dX6_open_158 : decode cX6_open 158 = .ok (.invokevirtual 173, 3) := by decide +kernel
theorem dX6_open_161 : decode cX6_open 161 = .ok (.aload_n 0, 1) := by decide +kernel
theorem dX6_open_162 : decode cX6_open 162 = .ok (.iload_n 1, 1) := by decide +kernel
theorem dX6_open_163 : decode cX6_open 163 = .ok (.bipush 6, 2) := by decide +kernel
theorem dX6_open_165 : decode cX6_open 165 = .ok (.iconst (-1), 1) := by decide +kernel
theorem dX6_open_166 : decode cX6_open 166 = .ok (.invokevirtual 173, 3) := by decide +kernel
theorem dX6_open_169 : decode cX6_open 169 = .ok (.aload_n 0, 1) := by decide +kernel
theorem dX6_open_170 : decode cX6_open 170 = .ok (.iload_n 1, 1) := by decide +kernel
theorem dX6_open_171 : decode cX6_open 171 = .ok (.invokevirtual 176, 3) := by decide +kernel
theorem dX6_open_174 : decode cX6_open 174 = .ok (.aload_n 0, 1) := by decide +kernel
theorem dX6_open_175 : decode cX6_open 175 = .ok (.iload_n 1, 1) := by decide +kernel
theorem dX6_open_176 : decode cX6_open 176 = .ok (.invokevirtual 179, 3) := by decide +kernel
theorem dX6_open_179 : decode cX6_open 179 = .ok (.aload_n 0, 1) := by decide +kernel
theorem dX6_open_180 : decode cX6_open 180 = .ok (.invokevirtual 182, 3) := by decide +kernel
theorem dX6_open_183 : decode cX6_open 183 = .ok (.ireturn, 1) := by decide +kernel
theorem dX6_openLanes_0 : decode cX6_openLanes 0 = .ok (.iconst 0, 1) := by decide +kernel
theorem dX6_openLanes_1 : decode cX6_openLanes 1 = .ok (.istore_n 1, 1) := by decide +kernel
theorem dX6_openLanes_2 : decode cX6_openLanes 2 = .ok (.iconst 0, 1) := by decide +kernel
theorem dX6_openLanes_3 : decode cX6_openLanes 3 = .ok (.istore_n 2, 1) := by decide +kernel
theorem dX6_openLanes_4 : decode cX6_openLanes 4 = .ok (.iload_n 2, 1) := by decide +kernel
theorem dX6_openLanes_5 : decode cX6_openLanes 5 = .ok (.iconst 4, 1) := by decide +kernel
theorem dX6_openLanes_6 : decode cX6_openLanes 6 = .ok (.if_icmp .ge 18, 3) := by decide +kernel
theorem dX6_openLanes_9 : decode cX6_openLanes 9 = .ok (.iload_n 1, 1) := by decide +kernel
theorem dX6_openLanes_10 : decode cX6_openLanes 10 = .ok (.aload_n 0, 1) := by decide +kernel
theorem dX6_openLanes_11 : decode cX6_openLanes 11 = .ok (.iload_n 2, 1) := by decide +kernel
theorem dX6_openLanes_12 : decode cX6_openLanes 12 = .ok (.iconst 0, 1) := by decide +kernel
theorem dX6_openLanes_13 : decode cX6_openLanes 13 = .ok (.invokevirtual 80, 3) := by decide +kernel
theorem dX6_openLanes_16 : decode cX6_openLanes 16 = .ok (.iadd, 1) := by decide +kernel
theorem dX6_openLanes_17 : decode cX6_openLanes 17 = .ok (.istore_n 1, 1) := by decide +kernel
theorem dX6_openLanes_18 : decode cX6_openLanes 18 = .ok (.iinc 2 1, 3) := by decide +kernel
theorem dX6_openLanes_21 : decode cX6_openLanes 21 = .ok (.goto (-17), 3) := by decide +kernel
theorem dX6_openLanes_24 : decode cX6_openLanes 24 = .ok (.iload_n 1, 1) := by decide +kernel
theorem dX6_openLanes_25 : decode cX6_openLanes 25 = .ok (.ireturn, 1) := by decide +kernel
theorem dX6_shut_0 : decode cX6_shut 0 = .ok (.aload_n 0, 1) := by decide +kernel
theorem dX6_shut_1 : decode cX6_shut 1 = .ok (.iload_n 1, 1) := by decide +kernel
theorem dX6_shut_2 : decode cX6_shut 2 = .ok (.invokevirtual 124, 3) := by decide +kernel
theorem dX6_shut_5 : decode cX6_shut 5 = .ok (.ifCond .ne 5, 3) := by decide +kernel
theorem dX6_shut_8 : decode cX6_shut 8 = .ok (.iconst 0, 1) := by decide +kernel
theorem dX6_shut_9 : decode cX6_shut 9 = .ok (.ireturn, 1) := by decide +kernel
theorem dX6_shut_10 : decode cX6_shut 10 = .ok (.aload_n 0, 1) := by decide +kernel
theorem dX6_shut_11 : decode cX6_shut 11 = .ok (.iload_n 1, 1) := by decide +kernel
theorem dX6_shut_12 : decode cX6_shut 12 = .ok (.iconst 0, 1) := by decide +kernel
theorem dX6_shut_13 : decode cX6_shut 13 = .ok (.iconst 0, 1) := by decide +kernel
theorem dX6_shut_14 : decode cX6_shut 14 = .ok (.invokevirtual 173, 3) := by decide +kernel
theorem dX6_shut_17 : decode cX6_shut 17 = .ok (.aload_n 0, 1) := by decide +kernel
theorem dX6_shut_18 : decode cX6_shut 18 = .ok (.iload_n 1, 1) := by decide +kernel
theorem dX6_shut_19 : decode cX6_shut 19 = .ok (.invokevirtual 176, 3) := by decide +kernel
theorem dX6_shut_22 : decode cX6_shut 22 = .ok (.aload_n 0, 1) := by decide +kernel
theorem dX6_shut_23 : decode cX6_shut 23 = .ok (.iload_n 1, 1) := by decide +kernel
theorem dX6_shut_24 : decode cX6_shut 24 = .ok (.invokevirtual 179, 3) := by decide +kernel
theorem dX6_shut_27 : decode cX6_shut 27 = .ok (.iconst 1, 1) := by decide +kernel
theorem dX6_shut_28 : decode cX6_shut 28 = .ok (.ireturn, 1) := by decide +kernel
theorem dX6_endMove_0 : decode cX6_endMove 0 = .ok (.iload_n 2, 1) := by decide +kernel
theorem dX6_endMove_1 : decode cX6_endMove 1 = .ok (.istore_n 3, 1) := by decide +kernel
theorem dX6_endMove_2 : decode cX6_endMove 2 = .ok (.aload_n 0, 1) := by decide +kernel
theorem dX6_endMove_3 : decode cX6_endMove 3 = .ok (.iload_n 1, 1) := by decide +kernel
theorem dX6_endMove_4 : decode cX6_endMove 4 = .ok (.bipush 16, 2) := by decide +kernel
theorem dX6_endMove_6 : decode cX6_endMove 6 = .ok (.invokevirtual 80, 3) := by decide +kernel
theorem dX6_endMove_9 : decode cX6_endMove 9 = .ok (.ifCond .ne 80, 3) := by decide +kernel
theorem dX6_endMove_12 : decode cX6_endMove 12 = .ok (.aload_n 0, 1) := by decide +kernel
theorem dX6_endMove_13 : decode cX6_endMove 13 = .ok (.iload_n 1, 1) := by decide +kernel
theorem dX6_endMove_14 : decode cX6_endMove 14 = .ok (.bipush 14, 2) := by decide +kernel
theorem dX6_endMove_16 : decode cX6_endMove 16 = .ok (.invokevirtual 80, 3) := by decide +kernel
theorem dX6_endMove_19 : decode cX6_endMove 19 = .ok (.aload_n 0, 1) := by decide +kernel
theorem dX6_endMove_20 : decode cX6_endMove 20 = .ok (.iload_n 1, 1) := by decide +kernel
theorem dX6_endMove_21 : decode cX6_endMove 21 = .ok (.bipush 12, 2) := by decide +kernel
theorem dX6_endMove_23 : decode cX6_endMove 23 = .ok (.invokevirtual 80, 3) := by decide +kernel
theorem dX6_endMove_26 : decode cX6_endMove 26 = .ok (.if_icmp .le 63, 3) := by decide +kernel
theorem dX6_endMove_29 : decode cX6_endMove 29 = .ok (.aload_n 0, 1) := by decide +kernel
theorem dX6_endMove_30 : decode cX6_endMove 30 = .ok (.iload_n 1, 1) := by decide +kernel
theorem dX6_endMove_31 : decode cX6_endMove 31 = .ok (.bipush 16, 2) := by decide +kernel
theorem dX6_endMove_33 : decode cX6_endMove 33 = .ok (.iconst 1, 1) := by decide +kernel
theorem dX6_endMove_34 : decode cX6_endMove 34 = .ok (.invokevirtual 173, 3) := by decide +kernel
theorem dX6_endMove_37 : decode cX6_endMove 37 = .ok (.aload_n 0, 1) := by decide +kernel
theorem dX6_endMove_38 : decode cX6_endMove 38 = .ok (.iload_n 1, 1) := by decide +kernel
theorem dX6_endMove_39 : decode cX6_endMove 39 = .ok (.bipush 17, 2) := by decide +kernel
theorem dX6_endMove_41 : decode cX6_endMove 41 = .ok (.iconst 1, 1) := by decide +kernel
theorem dX6_endMove_42 : decode cX6_endMove 42 = .ok (.invokevirtual 173, 3) := by decide +kernel
theorem dX6_endMove_45 : decode cX6_endMove 45 = .ok (.aload_n 0, 1) := by decide +kernel
theorem dX6_endMove_46 : decode cX6_endMove 46 = .ok (.iload_n 1, 1) := by decide +kernel
theorem dX6_endMove_47 : decode cX6_endMove 47 = .ok (.bipush 13, 2) := by decide +kernel
theorem dX6_endMove_49 : decode cX6_endMove 49 = .ok (.aload_n 0, 1) := by decide +kernel
theorem dX6_endMove_50 : decode cX6_endMove 50 = .ok (.iload_n 1, 1) := by decide +kernel
theorem dX6_endMove_51 : decode cX6_endMove 51 = .ok (.bipush 14, 2) := by decide +kernel
theorem dX6_endMove_53 : decode cX6_endMove 53 = .ok (.invokevirtual 80, 3) := by decide +kernel
theorem dX6_endMove_56 : decode cX6_endMove 56 = .ok (.invokevirtual 173, 3) := by decide +kernel
theorem dX6_endMove_59 : decode cX6_endMove 59 = .ok (.aload_n 0, 1) := by decide +kernel
theorem dX6_endMove_60 : decode cX6_endMove 60 = .ok (.iload_n 1, 1) := by decide +kernel
theorem dX6_endMove_61 : decode cX6_endMove 61 = .ok (.bipush 14, 2) := by decide +kernel
theorem dX6_endMove_63 : decode cX6_endMove 63 = .ok (.iconst 0, 1) := by decide +kernel
theorem dX6_endMove_64 : decode cX6_endMove 64 = .ok (.invokevirtual 173, 3) := by decide +kernel
theorem dX6_endMove_67 : decode cX6_endMove 67 = .ok (.aload_n 0, 1) := by decide +kernel
theorem dX6_endMove_68 : decode cX6_endMove 68 = .ok (.iload_n 1, 1) := by decide +kernel
theorem dX6_endMove_69 : decode cX6_endMove 69 = .ok (.bipush 15, 2) := by decide +kernel
theorem dX6_endMove_71 : decode cX6_endMove 71 = .ok (.aload_n 0, 1) := by decide +kernel
theorem dX6_endMove_72 : decode cX6_endMove 72 = .ok (.iload_n 1, 1) := by decide +kernel
theorem dX6_endMove_73 : decode cX6_endMove 73 = .ok (.bipush 13, 2) := by decide +kernel
theorem dX6_endMove_75 : decode cX6_endMove 75 = .ok (.invokevirtual 80, 3) := by decide +kernel
theorem dX6_endMove_78 : decode cX6_endMove 78 = .ok (.aload_n 0, 1) := by decide +kernel
theorem dX6_endMove_79 : decode cX6_endMove 79 = .ok (.iload_n 1, 1) := by decide +kernel
theorem dX6_endMove_80 : decode cX6_endMove 80 = .ok (.bipush 12, 2) := by decide +kernel
theorem dX6_endMove_82 : decode cX6_endMove 82 = .ok (.invokevirtual 80, 3) := by decide +kernel
theorem dX6_endMove_85 : decode cX6_endMove 85 = .ok (.iadd, 1) := by decide +kernel
theorem dX6_endMove_86 : decode cX6_endMove 86 = .ok (.invokevirtual 173, 3) := by decide +kernel
theorem dX6_endMove_89 : decode cX6_endMove 89 = .ok (.aload_n 0, 1) := by decide +kernel
theorem dX6_endMove_90 : decode cX6_endMove 90 = .ok (.iload_n 1, 1) := by decide +kernel
theorem dX6_endMove_91 : decode cX6_endMove 91 = .ok (.bipush 16, 2) := by decide +kernel
theorem dX6_endMove_93 : decode cX6_endMove 93 = .ok (.invokevirtual 80, 3) := by decide +kernel
theorem dX6_endMove_96 : decode cX6_endMove 96 = .ok (.iconst 1, 1) := by decide +kernel
theorem dX6_endMove_97 : decode cX6_endMove 97 = .ok (.if_icmp .ne 11, 3) := by decide +kernel
theorem dX6_endMove_100 : decode cX6_endMove 100 = .ok (.iload_n 3, 1) := by decide +kernel
theorem dX6_endMove_101 : decode cX6_endMove 101 = .ok (.aload_n 0, 1) := by decide +kernel
theorem dX6_endMove_102 : decode cX6_endMove 102 = .ok (.iload_n 1, 1) := by decide +kernel
theorem dX6_endMove_103 : decode cX6_endMove 103 = .ok (.invokevirtual 185, 3) := by decide +kernel
theorem dX6_endMove_106 : decode cX6_endMove 106 = .ok (.iadd, 1) := by decide +kernel
theorem dX6_endMove_107 : decode cX6_endMove 107 = .ok (.istore_n 3, 1) := by decide +kernel
theorem dX6_endMove_108 : decode cX6_endMove 108 = .ok (.aload_n 0, 1) := by decide +kernel
theorem dX6_endMove_109 : decode cX6_endMove 109 = .ok (.iload_n 1, 1) := by decide +kernel
theorem dX6_endMove_110 : decode cX6_endMove 110 = .ok (.bipush 18, 2) := by decide +kernel
theorem dX6_endMove_112 : decode cX6_endMove 112 = .ok (.iload_n 3, 1) := by decide +kernel
theorem dX6_endMove_113 : decode cX6_endMove 113 = .ok (.invokevirtual 173, 3) := by decide +kernel
theorem dX6_endMove_116 : decode cX6_endMove 116 = .ok (.aload_n 0, 1) := by decide +kernel
theorem dX6_endMove_117 : decode cX6_endMove 117 = .ok (.iload_n 1, 1) := by decide +kernel
theorem dX6_endMove_118 : decode cX6_endMove 118 = .ok (.bipush 19, 2) := by decide +kernel
theorem dX6_endMove_120 : decode cX6_endMove 120 = .ok (.iload_n 3, 1) := by decide +kernel
theorem dX6_endMove_121 : decode cX6_endMove 121 = .ok (.invokevirtual 188, 3) := by decide +kernel
theorem dX6_endMove_124 : decode cX6_endMove 124 = .ok (.iload_n 3, 1) := by decide +kernel
theorem dX6_endMove_125 : decode cX6_endMove 125 = .ok (.aload_n 0, 1) := by decide +kernel
theorem dX6_endMove_126 : decode cX6_endMove 126 = .ok (.iload_n 1, 1) := by decide +kernel
theorem dX6_endMove_127 : decode cX6_endMove 127 = .ok (.bipush 20, 2) := by decide +kernel
theorem dX6_endMove_129 : decode cX6_endMove 129 = .ok (.invokevirtual 80, 3) := by decide +kernel
theorem dX6_endMove_132 : decode cX6_endMove 132 = .ok (.if_icmp .le 11, 3) := by decide +kernel
theorem dX6_endMove_135 : decode cX6_endMove 135 = .ok (.aload_n 0, 1) := by decide +kernel
theorem dX6_endMove_136 : decode cX6_endMove 136 = .ok (.iload_n 1, 1) := by decide +kernel
theorem dX6_endMove_137 : decode cX6_endMove 137 = .ok (.bipush 20, 2) := by decide +kernel
theorem dX6_endMove_139 : decode cX6_endMove 139 = .ok (.iload_n 3, 1) := by decide +kernel
theorem dX6_endMove_140 : decode cX6_endMove 140 = .ok (.invokevirtual 173, 3) := by decide +kernel
theorem dX6_endMove_143 : decode cX6_endMove 143 = .ok (.aload_n 0, 1) := by decide +kernel
theorem dX6_endMove_144 : decode cX6_endMove 144 = .ok (.iload_n 1, 1) := by decide +kernel
theorem dX6_endMove_145 : decode cX6_endMove 145 = .ok (.invokevirtual 191, 3) := by decide +kernel
theorem dX6_endMove_148 : decode cX6_endMove 148 = .ok (.return_, 1) := by decide +kernel
theorem dX6_goFlip_0 : decode cX6_goFlip 0 = .ok (.aload_n 0, 1) := by decide +kernel
theorem dX6_goFlip_1 : decode cX6_goFlip 1 = .ok (.iload_n 1, 1) := by decide +kernel
theorem dX6_goFlip_2 : decode cX6_goFlip 2 = .ok (.bipush 15, 2) := by decide +kernel
theorem dX6_goFlip_4 : decode cX6_goFlip 4 = .ok (.invokevirtual 80, 3) := by decide +kernel
theorem dX6_goFlip_7 : decode cX6_goFlip 7 = .ok (.iconst 3, 1) := by decide +kernel
theorem dX6_goFlip_8 : decode cX6_goFlip 8 = .ok (.if_icmp .ge 13, 3) := by decide +kernel
theorem dX6_goFlip_11 : decode cX6_goFlip 11 = .ok (.aload_n 0, 1) := by decide +kernel
theorem dX6_goFlip_12 : decode cX6_goFlip 12 = .ok (.iload_n 1, 1) := by decide +kernel
theorem dX6_goFlip_13 : decode cX6_goFlip 13 = .ok (.bipush 15, 2) := by decide +kernel
theorem dX6_goFlip_15 : decode cX6_goFlip 15 = .ok (.invokevirtual 80, 3) := by decide +kernel
theorem dX6_goFlip_18 : decode cX6_goFlip 18 = .ok (.goto 4, 3) := by decide +kernel
theorem dX6_goFlip_21 : decode cX6_goFlip 21 = .ok (.iconst 3, 1) := by decide +kernel
theorem dX6_goFlip_22 : decode cX6_goFlip 22 = .ok (.istore_n 2, 1) := by decide +kernel
theorem dX6_goFlip_23 : decode cX6_goFlip 23 = .ok (.iload_n 2, 1) := by decide +kernel
theorem dX6_goFlip_24 : decode cX6_goFlip 24 = .ok (.ifCond .le 15, 3) := by decide +kernel
theorem dX6_goFlip_27 : decode cX6_goFlip 27 = .ok (.iload_n 2, 1) := by decide +kernel
theorem dX6_goFlip_28 : decode cX6_goFlip 28 = .ok (.aload_n 0, 1) := by decide +kernel
theorem dX6_goFlip_29 : decode cX6_goFlip 29 = .ok (.iload_n 1, 1) := by decide +kernel
theorem dX6_goFlip_30 : decode cX6_goFlip 30 = .ok (.bipush 17, 2) := by decide +kernel
theorem dX6_goFlip_32 : decode cX6_goFlip 32 = .ok (.invokevirtual 80, 3) := by decide +kernel
theorem dX6_goFlip_35 : decode cX6_goFlip 35 = .ok (.isub, 1) := by decide +kernel
theorem dX6_goFlip_36 : decode cX6_goFlip 36 = .ok (.goto 4, 3) := by decide +kernel
theorem dX6_goFlip_39 : decode cX6_goFlip 39 = .ok (.iconst 0, 1) := by decide +kernel
theorem dX6_goFlip_40 : decode cX6_goFlip 40 = .ok (.istore_n 3, 1) := by decide +kernel
theorem dX6_goFlip_41 : decode cX6_goFlip 41 = .ok (.iload_n 2, 1) := by decide +kernel
theorem dX6_goFlip_42 : decode cX6_goFlip 42 = .ok (.ifCond .le 11, 3) := by decide +kernel
theorem dX6_goFlip_45 : decode cX6_goFlip 45 = .ok (.aload_n 0, 1) := by decide +kernel
theorem dX6_goFlip_46 : decode cX6_goFlip 46 = .ok (.iload_n 1, 1) := by decide +kernel
theorem dX6_goFlip_47 : decode cX6_goFlip 47 = .ok (.bipush 17, 2) := by decide +kernel
theorem dX6_goFlip_49 : decode cX6_goFlip 49 = .ok (.iconst 0, 1) := by decide +kernel
theorem dX6_goFlip_50 : decode cX6_goFlip 50 = .ok (.invokevirtual 173, 3) := by decide +kernel
theorem dX6_goFlip_53 : decode cX6_goFlip 53 = .ok (.aload_n 0, 1) := by decide +kernel
theorem dX6_goFlip_54 : decode cX6_goFlip 54 = .ok (.iload_n 1, 1) := by decide +kernel
theorem dX6_goFlip_55 : decode cX6_goFlip 55 = .ok (.bipush 15, 2) := by decide +kernel
theorem dX6_goFlip_57 : decode cX6_goFlip 57 = .ok (.iload_n 2, 1) := by decide +kernel
theorem dX6_goFlip_58 : decode cX6_goFlip 58 = .ok (.ineg, 1) := by decide +kernel
theorem dX6_goFlip_59 : decode cX6_goFlip 59 = .ok (.invokevirtual 188, 3) := by decide +kernel
theorem dX6_goFlip_62 : decode cX6_goFlip 62 = .ok (.aload_n 0, 1) := by decide +kernel
theorem dX6_goFlip_63 : decode cX6_goFlip 63 = .ok (.iload_n 1, 1) := by decide +kernel
theorem dX6_goFlip_64 : decode cX6_goFlip 64 = .ok (.bipush 15, 2) := by decide +kernel
theorem dX6_goFlip_66 : decode cX6_goFlip 66 = .ok (.invokevirtual 80, 3) := by decide +kernel
theorem dX6_goFlip_69 : decode cX6_goFlip 69 = .ok (.ifCond .le 5, 3) := by decide +kernel
theorem dX6_goFlip_72 : decode cX6_goFlip 72 = .ok (.iload_n 3, 1) := by decide +kernel
theorem dX6_goFlip_73 : decode cX6_goFlip 73 = .ok (.ireturn, 1) := by decide +kernel
theorem dX6_goFlip_74 : decode cX6_goFlip 74 = .ok (.aload_n 0, 1) := by decide +kernel
theorem dX6_goFlip_75 : decode cX6_goFlip 75 = .ok (.iload_n 1, 1) := by decide +kernel
theorem dX6_goFlip_76 : decode cX6_goFlip 76 = .ok (.bipush 12, 2) := by decide +kernel
theorem dX6_goFlip_78 : decode cX6_goFlip 78 = .ok (.aload_n 0, 1) := by decide +kernel
theorem dX6_goFlip_79 : decode cX6_goFlip 79 = .ok (.iload_n 1, 1) := by decide +kernel
theorem dX6_goFlip_80 : decode cX6_goFlip 80 = .ok (.bipush 13, 2) := by decide +kernel
theorem dX6_goFlip_82 : decode cX6_goFlip 82 = .ok (.invokevirtual 80, 3) := by decide +kernel
theorem dX6_goFlip_85 : decode cX6_goFlip 85 = .ok (.invokevirtual 188, 3) := by decide +kernel
theorem dX6_goFlip_88 : decode cX6_goFlip 88 = .ok (.aload_n 0, 1) := by decide +kernel
theorem dX6_goFlip_89 : decode cX6_goFlip 89 = .ok (.iload_n 1, 1) := by decide +kernel
theorem dX6_goFlip_90 : decode cX6_goFlip 90 = .ok (.bipush 13, 2) := by decide +kernel
theorem dX6_goFlip_92 : decode cX6_goFlip 92 = .ok (.iconst 0, 1) := by decide +kernel
theorem dX6_goFlip_93 : decode cX6_goFlip 93 = .ok (.invokevirtual 173, 3) := by decide +kernel
theorem dX6_goFlip_96 : decode cX6_goFlip 96 = .ok (.aload_n 0, 1) := by decide +kernel
theorem dX6_goFlip_97 : decode cX6_goFlip 97 = .ok (.iload_n 1, 1) := by decide +kernel
theorem dX6_goFlip_98 : decode cX6_goFlip 98 = .ok (.bipush 16, 2) := by decide +kernel
theorem dX6_goFlip_100 : decode cX6_goFlip 100 = .ok (.iconst 0, 1) := by decide +kernel
theorem dX6_goFlip_101 : decode cX6_goFlip 101 = .ok (.invokevirtual 173, 3) := by decide +kernel
theorem dX6_goFlip_104 : decode cX6_goFlip 104 = .ok (.iload_n 3, 1) := by decide +kernel
theorem dX6_goFlip_105 : decode cX6_goFlip 105 = .ok (.ireturn, 1) := by decide +kernel
theorem dX6_layAnew_0 : decode cX6_layAnew 0 = .ok (.aload_n 0, 1) := by decide +kernel
theorem dX6_layAnew_1 : decode cX6_layAnew 1 = .ok (.iload_n 1, 1) := by decide +kernel
theorem dX6_layAnew_2 : decode cX6_layAnew 2 = .ok (.bipush 12, 2) := by decide +kernel
theorem dX6_layAnew_4 : decode cX6_layAnew 4 = .ok (.aload_n 0, 1) := by decide +kernel
theorem dX6_layAnew_5 : decode cX6_layAnew 5 = .ok (.iload_n 1, 1) := by decide +kernel
theorem dX6_layAnew_6 : decode cX6_layAnew 6 = .ok (.invokevirtual 116, 3) := by decide +kernel
theorem dX6_layAnew_9 : decode cX6_layAnew 9 = .ok (.invokevirtual 173, 3) := by decide +kernel
theorem dX6_layAnew_12 : decode cX6_layAnew 12 = .ok (.aload_n 0, 1) := by decide +kernel
theorem dX6_layAnew_13 : decode cX6_layAnew 13 = .ok (.iload_n 1, 1) := by decide +kernel
theorem dX6_layAnew_14 : decode cX6_layAnew 14 = .ok (.bipush 13, 2) := by decide +kernel
theorem dX6_layAnew_16 : decode cX6_layAnew 16 = .ok (.iconst 0, 1) := by decide +kernel
theorem dX6_layAnew_17 : decode cX6_layAnew 17 = .ok (.invokevirtual 173, 3) := by decide +kernel
theorem dX6_layAnew_20 : decode cX6_layAnew 20 = .ok (.aload_n 0, 1) := by decide +kernel
theorem dX6_layAnew_21 : decode cX6_layAnew 21 = .ok (.iload_n 1, 1) := by decide +kernel
theorem dX6_layAnew_22 : decode cX6_layAnew 22 = .ok (.bipush 14, 2) := by decide +kernel
theorem dX6_layAnew_24 : decode cX6_layAnew 24 = .ok (.iconst 0, 1) := by decide +kernel
theorem dX6_layAnew_25 : decode cX6_layAnew 25 = .ok (.invokevirtual 173, 3) := by decide +kernel
theorem dX6_layAnew_28 : decode cX6_layAnew 28 = .ok (.aload_n 0, 1) := by decide +kernel
theorem dX6_layAnew_29 : decode cX6_layAnew 29 = .ok (.iload_n 1, 1) := by decide +kernel
theorem dX6_layAnew_30 : decode cX6_layAnew 30 = .ok (.bipush 15, 2) := by decide +kernel
theorem dX6_layAnew_32 : decode cX6_layAnew 32 = .ok (.iconst 0, 1) := by decide +kernel
theorem dX6_layAnew_33 : decode cX6_layAnew 33 = .ok (.invokevirtual 173, 3) := by decide +kernel
theorem dX6_layAnew_36 : decode cX6_layAnew 36 = .ok (.aload_n 0, 1) := by decide +kernel
theorem dX6_layAnew_37 : decode cX6_layAnew 37 = .ok (.iload_n 1, 1) := by decide +kernel
theorem dX6_layAnew_38 : decode cX6_layAnew 38 = .ok (.bipush 16, 2) := by decide +kernel
theorem dX6_layAnew_40 : decode cX6_layAnew 40 = .ok (.iconst 0, 1) := by decide +kernel
theorem dX6_layAnew_41 : decode cX6_layAnew 41 = .ok (.invokevirtual 173, 3) := by decide +kernel
theorem dX6_layAnew_44 : decode cX6_layAnew 44 = .ok (.aload_n 0, 1) := by decide +kernel
theorem dX6_layAnew_45 : decode cX6_layAnew 45 = .ok (.iload_n 1, 1) := by decide +kernel
theorem dX6_layAnew_46 : decode cX6_layAnew 46 = .ok (.invokevirtual 116, 3) := by decide +kernel
theorem dX6_layAnew_49 : decode cX6_layAnew 49 = .ok (.ifCond .le 13, 3) := by decide +kernel
theorem dX6_layAnew_52 : decode cX6_layAnew 52 = .ok (.aload_n 0, 1) := by decide +kernel
theorem dX6_layAnew_53 : decode cX6_layAnew 53 = .ok (.iload_n 1, 1) := by decide +kernel
theorem dX6_layAnew_54 : decode cX6_layAnew 54 = .ok (.invokevirtual 116, 3) := by decide +kernel
theorem dX6_layAnew_57 : decode cX6_layAnew 57 = .ok (.iconst 1, 1) := by decide +kernel
theorem dX6_layAnew_58 : decode cX6_layAnew 58 = .ok (.isub, 1) := by decide +kernel
theorem dX6_layAnew_59 : decode cX6_layAnew 59 = .ok (.goto 4, 3) := by decide +kernel
theorem dX6_layAnew_62 : decode cX6_layAnew 62 = .ok (.iconst 0, 1) := by decide +kernel
theorem dX6_layAnew_63 : decode cX6_layAnew 63 = .ok (.istore_n 2, 1) := by decide +kernel
theorem dX6_layAnew_64 : decode cX6_layAnew 64 = .ok (.aload_n 0, 1) := by decide +kernel
theorem dX6_layAnew_65 : decode cX6_layAnew 65 = .ok (.iload_n 1, 1) := by decide +kernel
theorem dX6_layAnew_66 : decode cX6_layAnew 66 = .ok (.bipush 18, 2) := by decide +kernel
theorem dX6_layAnew_68 : decode cX6_layAnew 68 = .ok (.iload_n 2, 1) := by decide +kernel
theorem dX6_layAnew_69 : decode cX6_layAnew 69 = .ok (.invokevirtual 173, 3) := by decide +kernel
theorem dX6_layAnew_72 : decode cX6_layAnew 72 = .ok (.aload_n 0, 1) := by decide +kernel
theorem dX6_layAnew_73 : decode cX6_layAnew 73 = .ok (.iload_n 1, 1) := by decide +kernel
theorem dX6_layAnew_74 : decode cX6_layAnew 74 = .ok (.bipush 19, 2) := by decide +kernel
theorem dX6_layAnew_76 : decode cX6_layAnew 76 = .ok (.iload_n 2, 1) := by decide +kernel
theorem dX6_layAnew_77 : decode cX6_layAnew 77 = .ok (.invokevirtual 188, 3) := by decide +kernel
theorem dX6_layAnew_80 : decode cX6_layAnew 80 = .ok (.aload_n 0, 1) := by decide +kernel
theorem dX6_layAnew_81 : decode cX6_layAnew 81 = .ok (.iload_n 1, 1) := by decide +kernel
theorem dX6_layAnew_82 : decode cX6_layAnew 82 = .ok (.invokevirtual 191, 3) := by decide +kernel
theorem dX6_layAnew_85 : decode cX6_layAnew 85 = .ok (.return_, 1) := by decide +kernel
theorem dX6_state_0 : decode cX6_state 0 = .ok (.aload_n 0, 1) := by decide +kernel
theorem dX6_state_1 : decode cX6_state 1 = .ok (.iload_n 1, 1) := by decide +kernel
theorem dX6_state_2 : decode cX6_state 2 = .ok (.invokevirtual 124, 3) := by decide +kernel
theorem dX6_state_5 : decode cX6_state 5 = .ok (.ifCond .ne 5, 3) := by decide +kernel
theorem dX6_state_8 : decode cX6_state 8 = .ok (.iconst (-1), 1) := by decide +kernel
theorem dX6_state_9 : decode cX6_state 9 = .ok (.ireturn, 1) := by decide +kernel
theorem dX6_state_10 : decode cX6_state 10 = .ok (.iload_n 2, 1) := by decide +kernel
theorem dX6_state_11 : decode cX6_state 11 = .ok (.tableswitch 97 0 6 #[41, 49, 57, 65, 73, 81, 89], 41) := by decide +kernel
theorem dX6_state_52 : decode cX6_state 52 = .ok (.aload_n 0, 1) := by decide +kernel
theorem dX6_state_53 : decode cX6_state 53 = .ok (.iload_n 1, 1) := by decide +kernel
theorem dX6_state_54 : decode cX6_state 54 = .ok (.bipush 12, 2) := by decide +kernel
theorem dX6_state_56 : decode cX6_state 56 = .ok (.invokevirtual 80, 3) := by decide +kernel
theorem dX6_state_59 : decode cX6_state 59 = .ok (.ireturn, 1) := by decide +kernel
theorem dX6_state_60 : decode cX6_state 60 = .ok (.aload_n 0, 1) := by decide +kernel
theorem dX6_state_61 : decode cX6_state 61 = .ok (.iload_n 1, 1) := by decide +kernel
theorem dX6_state_62 : decode cX6_state 62 = .ok (.bipush 13, 2) := by decide +kernel
theorem dX6_state_64 : decode cX6_state 64 = .ok (.invokevirtual 80, 3) := by decide +kernel
theorem dX6_state_67 : decode cX6_state 67 = .ok (.ireturn, 1) := by decide +kernel
theorem dX6_state_68 : decode cX6_state 68 = .ok (.aload_n 0, 1) := by decide +kernel
theorem dX6_state_69 : decode cX6_state 69 = .ok (.iload_n 1, 1) := by decide +kernel
theorem dX6_state_70 : decode cX6_state 70 = .ok (.bipush 14, 2) := by decide +kernel
theorem dX6_state_72 : decode cX6_state 72 = .ok (.invokevirtual 80, 3) := by decide +kernel
theorem dX6_state_75 : decode cX6_state 75 = .ok (.ireturn, 1) := by decide +kernel
theorem dX6_state_76 : decode cX6_state 76 = .ok (.aload_n 0, 1) := by decide +kernel
theorem dX6_state_77 : decode cX6_state 77 = .ok (.iload_n 1, 1) := by decide +kernel
theorem dX6_state_78 : decode cX6_state 78 = .ok (.bipush 15, 2) := by decide +kernel
theorem dX6_state_80 : decode cX6_state 80 = .ok (.invokevirtual 80, 3) := by decide +kernel
theorem dX6_state_83 : decode cX6_state 83 = .ok (.ireturn, 1) := by decide +kernel
theorem dX6_state_84 : decode cX6_state 84 = .ok (.aload_n 0, 1) := by decide +kernel
theorem dX6_state_85 : decode cX6_state 85 = .ok (.iload_n 1, 1) := by decide +kernel
theorem dX6_state_86 : decode cX6_state 86 = .ok (.bipush 18, 2) := by decide +kernel
theorem dX6_state_88 : decode cX6_state 88 = .ok (.invokevirtual 80, 3) := by decide +kernel
theorem dX6_state_91 : decode cX6_state 91 = .ok (.ireturn, 1) := by decide +kernel
theorem dX6_state_92 : decode cX6_state 92 = .ok (.aload_n 0, 1) := by decide +kernel
theorem dX6_state_93 : decode cX6_state 93 = .ok (.iload_n 1, 1) := by decide +kernel
theorem dX6_state_94 : decode cX6_state 94 = .ok (.bipush 19, 2) := by decide +kernel
theorem dX6_state_96 : decode cX6_state 96 = .ok (.invokevirtual 80, 3) := by decide +kernel
theorem dX6_state_99 : decode cX6_state 99 = .ok (.ireturn, 1) := by decide +kernel
theorem dX6_state_100 : decode cX6_state 100 = .ok (.aload_n 0, 1) := by decide +kernel
theorem dX6_state_101 : decode cX6_state 101 = .ok (.iload_n 1, 1) := by decide +kernel
theorem dX6_state_102 : decode cX6_state 102 = .ok (.bipush 20, 2) := by decide +kernel
theorem dX6_state_104 : decode cX6_state 104 = .ok (.invokevirtual 80, 3) := by decide +kernel
theorem dX6_state_107 : decode cX6_state 107 = .ok (.ireturn, 1) := by decide +kernel
theorem dX6_state_108 : decode cX6_state 108 = .ok (.iconst (-1), 1) := by decide +kernel
theorem dX6_state_109 : decode cX6_state 109 = .ok (.ireturn, 1) := by decide +kernel
theorem dX6_soon_0 : decode cX6_soon 0 = .ok (.aload_n 0, 1) := by decide +kernel
theorem dX6_soon_1 : decode cX6_soon 1 = .ok (.iload_n 1, 1) := by decide +kernel
theorem dX6_soon_2 : decode cX6_soon 2 = .ok (.invokevirtual 124, 3) := by decide +kernel
theorem dX6_soon_5 : decode cX6_soon 5 = .ok (.ifCond .eq 23, 3) := by decide +kernel
theorem dX6_soon_8 : decode cX6_soon 8 = .ok (.iload_n 2, 1) := by decide +kernel
theorem dX6_soon_9 : decode cX6_soon 9 = .ok (.iconst 0, 1) := by decide +kernel
theorem dX6_soon_10 : decode cX6_soon 10 = .ok (.iconst 1, 1) := by decide +kernel
theorem dX6_soon_11 : decode cX6_soon 11 = .ok (.invokestatic 76, 3) := by decide +kernel
theorem dX6_soon_14 : decode cX6_soon 14 = .ok (.ifCond .eq 14, 3) := by decide +kernel
theorem dX6_soon_17 : decode cX6_soon 17 = .ok (.iload_n 2, 1) := by decide +kernel
theorem dX6_soon_18 : decode cX6_soon 18 = .ok (.aload_n 0, 1) := by decide +kernel
theorem dX6_soon_19 : decode cX6_soon 19 = .ok (.iload_n 1, 1) := by decide +kernel
theorem dX6_soon_20 : decode cX6_soon 20 = .ok (.bipush 16, 2) := by decide +kernel
theorem dX6_soon_22 : decode cX6_soon 22 = .ok (.invokevirtual 80, 3) := by decide +kernel
theorem dX6_soon_25 : decode cX6_soon 25 = .ok (.if_icmp .eq 5, 3) := by decide +kernel
theorem dX6_soon_28 : decode cX6_soon 28 = .ok (.iconst (-1), 1) := by decide +kernel
theorem dX6_soon_29 : decode cX6_soon 29 = .ok (.ireturn, 1) := by decide +kernel
theorem dX6_soon_30 : decode cX6_soon 30 = .ok (.iload_n 2, 1) := by decide +kernel
theorem dX6_soon_31 : decode cX6_soon 31 = .ok (.ifCond .ne 23, 3) := by decide +kernel
theorem dX6_soon_34 : decode cX6_soon 34 = .ok (.aload_n 0, 1) := by decide +kernel
theorem dX6_soon_35 : decode cX6_soon 35 = .ok (.iload_n 1, 1) := by decide +kernel
theorem dX6_soon_36 : decode cX6_soon 36 = .ok (.bipush 12, 2) := by decide +kernel
theorem dX6_soon_38 : decode cX6_soon 38 = .ok (.invokevirtual 80, 3) := by decide +kernel
theorem dX6_soon_41 : decode cX6_soon 41 = .ok (.aload_n 0, 1) := by decide +kernel
theorem dX6_soon_42 : decode cX6_soon 42 = .ok (.iload_n 1, 1) := by decide +kernel
theorem dX6_soon_43 : decode cX6_soon 43 = .ok (.bipush 14, 2) := by decide +kernel
theorem dX6_soon_45 : decode cX6_soon 45 = .ok (.invokevirtual 80, 3) := by decide +kernel
theorem dX6_soon_48 : decode cX6_soon 48 = .ok (.isub, 1) := by decide +kernel
theorem dX6_soon_49 : decode cX6_soon 49 = .ok (.iconst 1, 1) := by decide +kernel
theorem dX6_soon_50 : decode cX6_soon 50 = .ok (.iadd, 1) := by decide +kernel
theorem dX6_soon_51 : decode cX6_soon 51 = .ok (.goto 16, 3) := by decide +kernel
theorem dX6_soon_54 : decode cX6_soon 54 = .ok (.aload_n 0, 1) := by decide +kernel
theorem dX6_soon_55 : decode cX6_soon 55 = .ok (.iload_n 1, 1) := by decide +kernel
theorem dX6_soon_56 : decode cX6_soon 56 = .ok (.bipush 15, 2) := by decide +kernel
theorem dX6_soon_58 : decode cX6_soon 58 = .ok (.invokevirtual 80, 3) := by decide +kernel
theorem dX6_soon_61 : decode cX6_soon 61 = .ok (.iconst 3, 1) := by decide +kernel
theorem dX6_soon_62 : decode cX6_soon 62 = .ok (.iadd, 1) := by decide +kernel
theorem dX6_soon_63 : decode cX6_soon 63 = .ok (.iconst 1, 1) := by decide +kernel
theorem dX6_soon_64 : decode cX6_soon 64 = .ok (.isub, 1) := by decide +kernel
theorem dX6_soon_65 : decode cX6_soon 65 = .ok (.iconst 3, 1) := by decide +kernel
theorem dX6_soon_66 : decode cX6_soon 66 = .ok (.idiv, 1) := by decide +kernel
theorem dX6_soon_67 : decode cX6_soon 67 = .ok (.ireturn, 1) := by decide +kernel
theorem dX6_endWatches_0 : decode cX6_endWatches 0 = .ok (.iconst 0, 1) := by decide +kernel
theorem dX6_endWatches_1 : decode cX6_endWatches 1 = .ok (.istore_n 2, 1) := by decide +kernel
theorem dX6_endWatches_2 : decode cX6_endWatches 2 = .ok (.iload_n 2, 1) := by decide +kernel
theorem dX6_endWatches_3 : decode cX6_endWatches 3 = .ok (.bipush 8, 2) := by decide +kernel
theorem dX6_endWatches_5 : decode cX6_endWatches 5 = .ok (.if_icmp .ge 26, 3) := by decide +kernel
theorem dX6_endWatches_8 : decode cX6_endWatches 8 = .ok (.aload_n 0, 1) := by decide +kernel
theorem dX6_endWatches_9 : decode cX6_endWatches 9 = .ok (.getfield 34, 3) := by decide +kernel
theorem dX6_endWatches_12 : decode cX6_endWatches 12 = .ok (.iload_n 2, 1) := by decide +kernel
theorem dX6_endWatches_13 : decode cX6_endWatches 13 = .ok (.iaload, 1) := by decide +kernel
theorem dX6_endWatches_14 : decode cX6_endWatches 14 = .ok (.iload_n 1, 1) := by decide +kernel
theorem dX6_endWatches_15 : decode cX6_endWatches 15 = .ok (.if_icmp .ne 10, 3) := by decide +kernel
theorem dX6_endWatches_18 : decode cX6_endWatches 18 = .ok (.aload_n 0, 1) := by decide +kernel
theorem dX6_endWatches_19 : decode cX6_endWatches 19 = .ok (.getfield 34, 3) := by decide +kernel
theorem dX6_endWatches_22 : decode cX6_endWatches 22 = .ok (.iload_n 2, 1) := by decide +kernel
theorem dX6_endWatches_23 : decode cX6_endWatches 23 = .ok (.iconst (-1), 1) := by decide +kernel
theorem dX6_endWatches_24 : decode cX6_endWatches 24 = .ok (.iastore, 1) := by decide +kernel
theorem dX6_endWatches_25 : decode cX6_endWatches 25 = .ok (.iinc 2 1, 3) := by decide +kernel
theorem dX6_endWatches_28 : decode cX6_endWatches 28 = .ok (.goto (-26), 3) := by decide +kernel
theorem dX6_endWatches_31 : decode cX6_endWatches 31 = .ok (.return_, 1) := by decide +kernel
theorem dX6_isTold_0 : decode cX6_isTold 0 = .ok (.iload_n 1, 1) := by decide +kernel
theorem dX6_isTold_1 : decode cX6_isTold 1 = .ok (.iconst 0, 1) := by decide +kernel
theorem dX6_isTold_2 : decode cX6_isTold 2 = .ok (.bipush 7, 2) := by decide +kernel
theorem dX6_isTold_4 : decode cX6_isTold 4 = .ok (.invokestatic 76, 3) := by decide +kernel
theorem dX6_isTold_7 : decode cX6_isTold 7 = .ok (.ifCond .eq 16, 3) := by decide +kernel
theorem dX6_isTold_10 : decode cX6_isTold 10 = .ok (.aload_n 0, 1) := by decide +kernel
theorem dX6_isTold_11 : decode cX6_isTold 11 = .ok (.getfield 34, 3) := by decide +kernel
theorem dX6_isTold_14 : decode cX6_isTold 14 = .ok (.iload_n 1, 1) := by decide +kernel
theorem dX6_isTold_15 : decode cX6_isTold 15 = .ok (.iaload, 1) := by decide +kernel
theorem dX6_isTold_16 : decode cX6_isTold 16 = .ok (.ifCond .lt 7, 3) := by decide +kernel
theorem dX6_isTold_19 : decode cX6_isTold 19 = .ok (.iconst 1, 1) := by decide +kernel
theorem dX6_isTold_20 : decode cX6_isTold 20 = .ok (.goto 4, 3) := by decide +kernel
theorem dX6_isTold_23 : decode cX6_isTold 23 = .ok (.iconst 0, 1) := by decide +kernel
theorem dX6_isTold_24 : decode cX6_isTold 24 = .ok (.ireturn, 1) := by decide +kernel
theorem dX6_reachedNow_0 : decode cX6_reachedNow 0 = .ok (.aload_n 0, 1) := by decide +kernel
theorem dX6_reachedNow_1 : decode cX6_reachedNow 1 = .ok (.iload_n 1, 1) := by decide +kernel
theorem dX6_reachedNow_2 : decode cX6_reachedNow 2 = .ok (.invokevirtual 194, 3) := by decide +kernel
theorem dX6_reachedNow_5 : decode cX6_reachedNow 5 = .ok (.aload_n 0, 1) := by decide +kernel
theorem dX6_reachedNow_6 : decode cX6_reachedNow 6 = .ok (.aload_n 0, 1) := by decide +kernel
theorem dX6_reachedNow_7 : decode cX6_reachedNow 7 = .ok (.iload_n 1, 1) := by decide +kernel
theorem dX6_reachedNow_8 : decode cX6_reachedNow 8 = .ok (.iconst 1, 1) := by decide +kernel
theorem dX6_reachedNow_9 : decode cX6_reachedNow 9 = .ok (.invokevirtual 80, 3) := by decide +kernel
theorem dX6_reachedNow_12 : decode cX6_reachedNow 12 = .ok (.iload_n 2, 1) := by decide +kernel
theorem dX6_reachedNow_13 : decode cX6_reachedNow 13 = .ok (.invokevirtual 197, 3) := by decide +kernel
theorem dX6_reachedNow_16 : decode cX6_reachedNow 16 = .ok (.iload_n 3, 1) := by decide +kernel
theorem dX6_reachedNow_17 : decode cX6_reachedNow 17 = .ok (.invokestatic 200, 3) := by decide +kernel
theorem dX6_reachedNow_20 : decode cX6_reachedNow 20 = .ok (.ifCond .eq 7, 3) := by decide +kernel
theorem dX6_reachedNow_23 : decode cX6_reachedNow 23 = .ok (.iconst 1, 1) := by decide +kernel
theorem dX6_reachedNow_24 : decode cX6_reachedNow 24 = .ok (.goto 4, 3) := by decide +kernel
theorem dX6_reachedNow_27 : decode cX6_reachedNow 27 = .ok (.iconst 0, 1) := by decide +kernel
theorem dX6_reachedNow_28 : decode cX6_reachedNow 28 = .ok (.ireturn, 1) := by decide +kernel
theorem dX6_look_0 : decode cX6_look 0 = .ok (.iconst 0, 1) := by decide +kernel
theorem dX6_look_1 : decode cX6_look 1 = .ok (.istore_n 2, 1) := by decide +kernel
theorem dX6_look_2 : decode cX6_look 2 = .ok (.iload_n 2, 1) := by decide +kernel
theorem dX6_look_3 : decode cX6_look 3 = .ok (.bipush 8, 2) := by decide +kernel
theorem dX6_look_5 : decode cX6_look 5 = .ok (.if_icmp .ge 80, 3) := by decide +kernel
theorem dX6_look_8 : decode cX6_look 8 = .ok (.aload_n 0, 1) := by decide +kernel
theorem dX6_look_9 : decode cX6_look 9 = .ok (.getfield 34, 3) := by decide +kernel
theorem dX6_look_12 : decode cX6_look 12 = .ok (.iload_n 2, 1) := by decide +kernel
theorem dX6_look_13 : decode cX6_look 13 = .ok (.iaload, 1) := by decide +kernel
theorem dX6_look_14 : decode cX6_look 14 = .ok (.iload_n 1, 1) := by decide +kernel
theorem dX6_look_15 : decode cX6_look 15 = .ok (.if_icmp .eq 6, 3) := by decide +kernel
theorem dX6_look_18 : decode cX6_look 18 = .ok (.goto 61, 3) := by decide +kernel
theorem dX6_look_21 : decode cX6_look 21 = .ok (.aload_n 0, 1) := by decide +kernel
theorem dX6_look_22 : decode cX6_look 22 = .ok (.iload_n 1, 1) := by decide +kernel
theorem dX6_look_23 : decode cX6_look 23 = .ok (.aload_n 0, 1) := by decide +kernel
theorem dX6_look_24 : decode cX6_look 24 = .ok (.getfield 37, 3) := by decide +kernel
theorem dX6_look_27 : decode cX6_look 27 = .ok (.iload_n 2, 1) := by decide +kernel
theorem dX6_look_28 : decode cX6_look 28 = .ok (.iaload, 1) := by decide +kernel
theorem dX6_look_29 : decode cX6_look 29 = .ok (.aload_n 0, 1) := by decide +kernel
theorem dX6_look_30 : decode cX6_look 30 = .ok (.getfield 40, 3) := by decide +kernel
theorem dX6_look_33 : decode cX6_look 33 = .ok (.iload_n 2, 1) := by decide +kernel
theorem dX6_look_34 : decode cX6_look 34 = .ok (.iaload, 1) := by decide +kernel
theorem dX6_look_35 : decode cX6_look 35 = .ok (.invokevirtual 203, 3) := by decide +kernel
theorem dX6_look_38 : decode cX6_look 38 = .ok (.istore_n 3, 1) := by decide +kernel
theorem dX6_look_39 : decode cX6_look 39 = .ok (.iload_n 3, 1) := by decide +kernel
theorem dX6_look_40 : decode cX6_look 40 = .ok (.aload_n 0, 1) := by decide +kernel
theorem dX6_look_41 : decode cX6_look 41 = .ok (.getfield 43, 3) := by decide +kernel
theorem dX6_look_44 : decode cX6_look 44 = .ok (.iload_n 2, 1) := by decide +kernel
theorem dX6_look_45 : decode cX6_look 45 = .ok (.iaload, 1) := by decide +kernel
theorem dX6_look_46 : decode cX6_look 46 = .ok (.if_icmp .le 26, 3) := by decide +kernel
theorem dX6_look_49 : decode cX6_look 49 = .ok (.aload_n 0, 1) := by decide +kernel
theorem dX6_look_50 : decode cX6_look 50 = .ok (.getfield 46, 3) := by decide +kernel
theorem dX6_look_53 : decode cX6_look 53 = .ok (.iload_n 2, 1) := by decide +kernel
theorem dX6_look_54 : decode cX6_look 54 = .ok (.dup2, 1) := by decide +kernel
theorem dX6_look_55 : decode cX6_look 55 = .ok (.iaload, 1) := by decide +kernel
theorem dX6_look_56 : decode cX6_look 56 = .ok (.iconst 1, 1) := by decide +kernel
theorem dX6_look_57 : decode cX6_look 57 = .ok (.iadd, 1) := by decide +kernel
theorem dX6_look_58 : decode cX6_look 58 = .ok (.iastore, 1) := by decide +kernel
theorem dX6_look_59 : decode cX6_look 59 = .ok (.aload_n 0, 1) := by decide +kernel
theorem dX6_look_60 : decode cX6_look 60 = .ok (.getfield 49, 3) := by decide +kernel
theorem dX6_look_63 : decode cX6_look 63 = .ok (.iload_n 2, 1) := by decide +kernel
theorem dX6_look_64 : decode cX6_look 64 = .ok (.aload_n 0, 1) := by decide +kernel
theorem dX6_look_65 : decode cX6_look 65 = .ok (.iload_n 1, 1) := by decide +kernel
theorem dX6_look_66 : decode cX6_look 66 = .ok (.bipush 6, 2) := by decide +kernel
theorem dX6_look_68 : decode cX6_look 68 = .ok (.invokevirtual 80, 3) := by decide +kernel
theorem dX6_look_71 : decode cX6_look 71 = .ok (.iastore, 1) := by decide +kernel
theorem dX6_look_72 : decode cX6_look 72 = .ok (.aload_n 0, 1) := by decide +kernel
theorem dX6_look_73 : decode cX6_look 73 = .ok (.getfield 43, 3) := by decide +kernel
theorem dX6_look_76 : decode cX6_look 76 = .ok (.iload_n 2, 1) := by decide +kernel
theorem dX6_look_77 : decode cX6_look 77 = .ok (.iload_n 3, 1) := by decide +kernel
theorem dX6_look_78 : decode cX6_look 78 = .ok (.iastore, 1) := by decide +kernel
theorem dX6_look_79 : decode cX6_look 79 = .ok (.iinc 2 1, 3) := by decide +kernel
theorem dX6_look_82 : decode cX6_look 82 = .ok (.goto (-80), 3) := by decide +kernel
theorem dX6_look_85 : decode cX6_look 85 = .ok (.return_, 1) := by decide +kernel
theorem dX6_watch_0 : decode cX6_watch 0 = .ok (.iload_n 1, 1) := by decide +kernel
theorem dX6_watch_1 : decode cX6_watch 1 = .ok (.iconst 0, 1) := by decide +kernel
theorem dX6_watch_2 : decode cX6_watch 2 = .ok (.bipush 7, 2) := by decide +kernel
theorem dX6_watch_4 : decode cX6_watch 4 = .ok (.invokestatic 76, 3) := by decide +kernel
theorem dX6_watch_7 : decode cX6_watch 7 = .ok (.ifCond .eq 12, 3) := by decide +kernel
theorem dX6_watch_10 : decode cX6_watch 10 = .ok (.aload_n 0, 1) := by decide +kernel
theorem dX6_watch_11 : decode cX6_watch 11 = .ok (.iload_n 2, 1) := by decide +kernel
theorem dX6_watch_12 : decode cX6_watch 12 = .ok (.iload_n 3, 1) := by decide +kernel
theorem dX6_watch_13 : decode cX6_watch 13 = .ok (.invokevirtual 207, 3) := by decide +kernel
theorem dX6_watch_16 : decode cX6_watch 16 = .ok (.ifCond .ne 5, 3) := by decide +kernel
theorem dX6_watch_19 : decode cX6_watch 19 = .ok (.iconst (-1), 1) := by decide +kernel
theorem dX6_watch_20 : decode cX6_watch 20 = .ok (.ireturn, 1) := by decide +kernel
theorem dX6_watch_21 : decode cX6_watch 21 = .ok (.aload_n 0, 1) := by decide +kernel
theorem dX6_watch_22 : decode cX6_watch 22 = .ok (.getfield 34, 3) := by decide +kernel
theorem dX6_watch_25 : decode cX6_watch 25 = .ok (.iload_n 1, 1) := by decide +kernel
theorem dX6_watch_26 : decode cX6_watch 26 = .ok (.iload_n 2, 1) := by decide +kernel
theorem dX6_watch_27 : decode cX6_watch 27 = .ok (.iastore, 1) := by decide +kernel
theorem dX6_watch_28 : decode cX6_watch 28 = .ok (.aload_n 0, 1) := by decide +kernel
theorem dX6_watch_29 : decode cX6_watch 29 = .ok (.getfield 37, 3) := by decide +kernel
theorem dX6_watch_32 : decode cX6_watch 32 = .ok (.iload_n 1, 1) := by decide +kernel
theorem dX6_watch_33 : decode cX6_watch 33 = .ok (.iload_n 3, 1) := by decide +kernel
theorem dX6_watch_34 : decode cX6_watch 34 = .ok (.iastore, 1) := by decide +kernel
theorem dX6_watch_35 : decode cX6_watch 35 = .ok (.aload_n 0, 1) := by decide +kernel
theorem dX6_watch_36 : decode cX6_watch 36 = .ok (.getfield 40, 3) := by decide +kernel
theorem dX6_watch_39 : decode cX6_watch 39 = .ok (.iload_n 1, 1) := by decide +kernel
theorem dX6_watch_40 : decode cX6_watch 40 = .ok (.iload 4, 2) := by decide +kernel
theorem dX6_watch_42 : decode cX6_watch 42 = .ok (.iastore, 1) := by decide +kernel
theorem dX6_watch_43 : decode cX6_watch 43 = .ok (.aload_n 0, 1) := by decide +kernel
theorem dX6_watch_44 : decode cX6_watch 44 = .ok (.getfield 43, 3) := by decide +kernel
theorem dX6_watch_47 : decode cX6_watch 47 = .ok (.iload_n 1, 1) := by decide +kernel
theorem dX6_watch_48 : decode cX6_watch 48 = .ok (.aload_n 0, 1) := by decide +kernel
theorem dX6_watch_49 : decode cX6_watch 49 = .ok (.iload_n 2, 1) := by decide +kernel
theorem dX6_watch_50 : decode cX6_watch 50 = .ok (.iload_n 3, 1) := by decide +kernel
theorem dX6_watch_51 : decode cX6_watch 51 = .ok (.iload 4, 2) := by decide +kernel
theorem dX6_watch_53 : decode cX6_watch 53 = .ok (.invokevirtual 203, 3) := by decide +kernel
theorem dX6_watch_56 : decode cX6_watch 56 = .ok (.iastore, 1) := by decide +kernel
theorem dX6_watch_57 : decode cX6_watch 57 = .ok (.aload_n 0, 1) := by decide +kernel
theorem dX6_watch_58 : decode cX6_watch 58 = .ok (.getfield 46, 3) := by decide +kernel
theorem dX6_watch_61 : decode cX6_watch 61 = .ok (.iload_n 1, 1) := by decide +kernel
theorem dX6_watch_62 : decode cX6_watch 62 = .ok (.iconst 0, 1) := by decide +kernel
theorem dX6_watch_63 : decode cX6_watch 63 = .ok (.iastore, 1) := by decide +kernel
theorem dX6_watch_64 : decode cX6_watch 64 = .ok (.aload_n 0, 1) := by decide +kernel
theorem dX6_watch_65 : decode cX6_watch 65 = .ok (.getfield 49, 3) := by decide +kernel
theorem dX6_watch_68 : decode cX6_watch 68 = .ok (.iload_n 1, 1) := by decide +kernel
theorem dX6_watch_69 : decode cX6_watch 69 = .ok (.iconst (-1), 1) := by decide +kernel
theorem dX6_watch_70 : decode cX6_watch 70 = .ok (.iastore, 1) := by decide +kernel
theorem dX6_watch_71 : decode cX6_watch 71 = .ok (.aload_n 0, 1) := by decide +kernel
theorem dX6_watch_72 : decode cX6_watch 72 = .ok (.getfield 43, 3) := by decide +kernel
theorem dX6_watch_75 : decode cX6_watch 75 = .ok (.iload_n 1, 1) := by decide +kernel
theorem dX6_watch_76 : decode cX6_watch 76 = .ok (.iaload, 1) := by decide +kernel
theorem dX6_watch_77 : decode cX6_watch 77 = .ok (.ireturn, 1) := by decide +kernel
theorem dX6_rings_0 : decode cX6_rings 0 = .ok (.aload_n 0, 1) := by decide +kernel
theorem dX6_rings_1 : decode cX6_rings 1 = .ok (.iload_n 1, 1) := by decide +kernel
theorem dX6_rings_2 : decode cX6_rings 2 = .ok (.invokevirtual 210, 3) := by decide +kernel
theorem dX6_rings_5 : decode cX6_rings 5 = .ok (.ifCond .eq 12, 3) := by decide +kernel
theorem dX6_rings_8 : decode cX6_rings 8 = .ok (.aload_n 0, 1) := by decide +kernel
theorem dX6_rings_9 : decode cX6_rings 9 = .ok (.getfield 46, 3) := by decide +kernel
theorem dX6_rings_12 : decode cX6_rings 12 = .ok (.iload_n 1, 1) := by decide +kernel
theorem dX6_rings_13 : decode cX6_rings 13 = .ok (.iaload, 1) := by decide +kernel
theorem dX6_rings_14 : decode cX6_rings 14 = .ok (.goto 4, 3) := by decide +kernel
theorem dX6_rings_17 : decode cX6_rings 17 = .ok (.iconst (-1), 1) := by decide +kernel
theorem dX6_rings_18 : decode cX6_rings 18 = .ok (.ireturn, 1) := by decide +kernel
theorem dX6_rang_0 : decode cX6_rang 0 = .ok (.aload_n 0, 1) := by decide +kernel
theorem dX6_rang_1 : decode cX6_rang 1 = .ok (.iload_n 1, 1) := by decide +kernel
theorem dX6_rang_2 : decode cX6_rang 2 = .ok (.invokevirtual 210, 3) := by decide +kernel
theorem dX6_rang_5 : decode cX6_rang 5 = .ok (.ifCond .eq 12, 3) := by decide +kernel
theorem dX6_rang_8 : decode cX6_rang 8 = .ok (.aload_n 0, 1) := by decide +kernel
theorem dX6_rang_9 : decode cX6_rang 9 = .ok (.getfield 49, 3) := by decide +kernel
theorem dX6_rang_12 : decode cX6_rang 12 = .ok (.iload_n 1, 1) := by decide +kernel
theorem dX6_rang_13 : decode cX6_rang 13 = .ok (.iaload, 1) := by decide +kernel
theorem dX6_rang_14 : decode cX6_rang 14 = .ok (.goto 4, 3) := by decide +kernel
theorem dX6_rang_17 : decode cX6_rang 17 = .ok (.iconst (-1), 1) := by decide +kernel
theorem dX6_rang_18 : decode cX6_rang 18 = .ok (.ireturn, 1) := by decide +kernel
theorem dX6_shift_0 : decode cX6_shift 0 = .ok (.bipush 121, 2) := by decide +kernel
theorem dX6_shift_2 : decode cX6_shift 2 = .ok (.iload_n 1, 1) := by decide +kernel
theorem dX6_shift_3 : decode cX6_shift 3 = .ok (.imul, 1) := by decide +kernel
theorem dX6_shift_4 : decode cX6_shift 4 = .ok (.istore 4, 2) := by decide +kernel
theorem dX6_shift_6 : decode cX6_shift 6 = .ok (.iload_n 3, 1) := by decide +kernel
theorem dX6_shift_7 : decode cX6_shift 7 = .ok (.ifCond .eq 41, 3) := by decide +kernel
theorem dX6_shift_10 : decode cX6_shift 10 = .ok (.iload 4, 2) := by decide +kernel
theorem dX6_shift_12 : decode cX6_shift 12 = .ok (.aload_n 0, 1) := by decide +kernel
theorem dX6_shift_13 : decode cX6_shift 13 = .ok (.iload_n 1, 1) := by decide +kernel
theorem dX6_shift_14 : decode cX6_shift 14 = .ok (.invokevirtual 116, 3) := by decide +kernel
theorem dX6_shift_17 : decode cX6_shift 17 = .ok (.iadd, 1) := by decide +kernel
theorem dX6_shift_18 : decode cX6_shift 18 = .ok (.istore 5, 2) := by decide +kernel
theorem dX6_shift_20 : decode cX6_shift 20 = .ok (.iload 5, 2) := by decide +kernel
theorem dX6_shift_22 : decode cX6_shift 22 = .ok (.iload 4, 2) := by decide +kernel
theorem dX6_shift_24 : decode cX6_shift 24 = .ok (.iload_n 2, 1) := by decide +kernel
theorem dX6_shift_25 : decode cX6_shift 25 = .ok (.iadd, 1) := by decide +kernel
theorem dX6_shift_26 : decode cX6_shift 26 = .ok (.if_icmp .le 19, 3) := by decide +kernel
theorem dX6_shift_29 : decode cX6_shift 29 = .ok (.aload_n 0, 1) := by decide +kernel
theorem dX6_shift_30 : decode cX6_shift 30 = .ok (.iload 5, 2) := by decide +kernel
theorem dX6_shift_32 : decode cX6_shift 32 = .ok (.iconst 1, 1) := by decide +kernel
theorem dX6_shift_33 : decode cX6_shift 33 = .ok (.isub, 1) := by decide +kernel
theorem dX6_shift_34 : decode cX6_shift 34 = .ok (.iload 5, 2) := by decide +kernel
theorem dX6_shift_36 : decode cX6_shift 36 = .ok (.invokevirtual 213, 3) := by decide +kernel
theorem dX6_shift_39 : decode cX6_shift 39 = .ok (.iinc 5 (-1), 3) := by decide +kernel
theorem dX6_shift_42 : decode cX6_shift 42 = .ok (.goto (-22), 3) := by decide +kernel
theorem dX6_shift_45 : decode cX6_shift 45 = .ok (.goto 40, 3) := by decide +kernel
theorem dX6_shift_48 : decode cX6_shift 48 = .ok (.iload 4, 2) := by decide +kernel
theorem dX6_shift_50 : decode cX6_shift 50 = .ok (.iload_n 2, 1) := by decide +kernel
theorem dX6_shift_51 : decode cX6_shift 51 = .ok (.iadd, 1) := by decide +kernel
theorem dX6_shift_52 : decode cX6_shift 52 = .ok (.istore 5, 2) := by decide +kernel
theorem dX6_shift_54 : decode cX6_shift 54 = .ok (.iload 5, 2) := by decide +kernel
theorem dX6_shift_56 : decode cX6_shift 56 = .ok (.iconst 1, 1) := by decide +kernel
theorem dX6_shift_57 : decode cX6_shift 57 = .ok (.iadd, 1) := by decide +kernel
theorem dX6_shift_58 : decode cX6_shift 58 = .ok (.iload 4, 2) := by decide +kernel
theorem dX6_shift_60 : decode cX6_shift 60 = .ok (.aload_n 0, 1) := by decide +kernel
theorem dX6_shift_61 : decode cX6_shift 61 = .ok (.iload_n 1, 1) := by decide +kernel
theorem dX6_shift_62 : decode cX6_shift 62 = .ok (.invokevirtual 116, 3) := by decide +kernel
theorem dX6_shift_65 : decode cX6_shift 65 = .ok (.iadd, 1) := by decide +kernel
theorem dX6_shift_66 : decode cX6_shift 66 = .ok (.if_icmp .ge 19, 3) := by decide +kernel
theorem dX6_shift_69 : decode cX6_shift 69 = .ok (.aload_n 0, 1) := by decide +kernel
theorem dX6_shift_70 : decode cX6_shift 70 = .ok (.iload 5, 2) := by decide +kernel
theorem dX6_shift_72 : decode cX6_shift 72 = .ok (.iconst 1, 1) := by decide +kernel
theorem dX6_shift_73 : decode cX6_shift 73 = .ok (.iadd, 1) := by decide +kernel
theorem dX6_shift_74 : decode cX6_shift 74 = .ok (.iload 5, 2) := by decide +kernel
theorem dX6_shift_76 : decode cX6_shift 76 = .ok (.invokevirtual 213, 3) := by decide +kernel
theorem dX6_shift_79 : decode cX6_shift 79 = .ok (.iinc 5 1, 3) := by decide +kernel
theorem dX6_shift_82 : decode cX6_shift 82 = .ok (.goto (-28), 3) := by decide +kernel
theorem dX6_shift_85 : decode cX6_shift 85 = .ok (.return_, 1) := by decide +kernel
theorem dX6_copyEvent_0 : decode cX6_copyEvent 0 = .ok (.aload_n 0, 1) := by decide +kernel
theorem dX6_copyEvent_1 : decode cX6_copyEvent 1 = .ok (.getfield 13, 3) := by decide +kernel
theorem dX6_copyEvent_4 : decode cX6_copyEvent 4 = .ok (.iload_n 2, 1) := by decide +kernel
theorem dX6_copyEvent_5 : decode cX6_copyEvent 5 = .ok (.aload_n 0, 1) := by decide +kernel
theorem dX6_copyEvent_6 : decode cX6_copyEvent 6 = .ok (.getfield 13, 3) := by decide +kernel
theorem dX6_copyEvent_9 : decode cX6_copyEvent 9 = .ok (.iload_n 1, 1) := by decide +kernel
theorem dX6_copyEvent_10 : decode cX6_copyEvent 10 = .ok (.iaload, 1) := by decide +kernel
theorem dX6_copyEvent_11 : decode cX6_copyEvent 11 = .ok (.iastore, 1) := by decide +kernel
theorem dX6_copyEvent_12 : decode cX6_copyEvent 12 = .ok (.aload_n 0, 1) := by decide +kernel
theorem dX6_copyEvent_13 : decode cX6_copyEvent 13 = .ok (.getfield 16, 3) := by decide +kernel
theorem dX6_copyEvent_16 : decode cX6_copyEvent 16 = .ok (.iload_n 2, 1) := by decide +kernel
theorem dX6_copyEvent_17 : decode cX6_copyEvent 17 = .ok (.aload_n 0, 1) := by decide +kernel
theorem dX6_copyEvent_18 : decode cX6_copyEvent 18 = .ok (.getfield 16, 3) := by decide +kernel
theorem dX6_copyEvent_21 : decode cX6_copyEvent 21 = .ok (.iload_n 1, 1) := by decide +kernel
theorem dX6_copyEvent_22 : decode cX6_copyEvent 22 = .ok (.iaload, 1) := by decide +kernel
theorem dX6_copyEvent_23 : decode cX6_copyEvent 23 = .ok (.iastore, 1) := by decide +kernel
theorem dX6_copyEvent_24 : decode cX6_copyEvent 24 = .ok (.aload_n 0, 1) := by decide +kernel
theorem dX6_copyEvent_25 : decode cX6_copyEvent 25 = .ok (.getfield 19, 3) := by decide +kernel
theorem dX6_copyEvent_28 : decode cX6_copyEvent 28 = .ok (.iload_n 2, 1) := by decide +kernel
theorem dX6_copyEvent_29 : decode cX6_copyEvent 29 = .ok (.aload_n 0, 1) := by decide +kernel
theorem dX6_copyEvent_30 : decode cX6_copyEvent 30 = .ok (.getfield 19, 3) := by decide +kernel
theorem dX6_copyEvent_33 : decode cX6_copyEvent 33 = .ok (.iload_n 1, 1) := by decide +kernel
theorem dX6_copyEvent_34 : decode cX6_copyEvent 34 = .ok (.iaload, 1) := by decide +kernel
theorem dX6_copyEvent_35 : decode cX6_copyEvent 35 = .ok (.iastore, 1) := by decide +kernel
theorem dX6_copyEvent_36 : decode cX6_copyEvent 36 = .ok (.return_, 1) := by decide +kernel
theorem dX6_placeOf_0 : decode cX6_placeOf 0 = .ok (.iconst 0, 1) := by decide +kernel
theorem dX6_placeOf_1 : decode cX6_placeOf 1 = .ok (.istore_n 3, 1) := by decide +kernel
theorem dX6_placeOf_2 : decode cX6_placeOf 2 = .ok (.iload_n 3, 1) := by decide +kernel
theorem dX6_placeOf_3 : decode cX6_placeOf 3 = .ok (.aload_n 0, 1) := by decide +kernel
theorem dX6_placeOf_4 : decode cX6_placeOf 4 = .ok (.iload_n 1, 1) := by decide +kernel
theorem dX6_placeOf_5 : decode cX6_placeOf 5 = .ok (.invokevirtual 116, 3) := by decide +kernel
theorem dX6_placeOf_8 : decode cX6_placeOf 8 = .ok (.if_icmp .ge 24, 3) := by decide +kernel
theorem dX6_placeOf_11 : decode cX6_placeOf 11 = .ok (.aload_n 0, 1) := by decide +kernel
theorem dX6_placeOf_12 : decode cX6_placeOf 12 = .ok (.getfield 13, 3) := by decide +kernel
theorem dX6_placeOf_15 : decode cX6_placeOf 15 = .ok (.bipush 121, 2) := by decide +kernel
theorem dX6_placeOf_17 : decode cX6_placeOf 17 = .ok (.iload_n 1, 1) := by decide +kernel
theorem dX6_placeOf_18 : decode cX6_placeOf 18 = .ok (.imul, 1) := by decide +kernel
theorem dX6_placeOf_19 : decode cX6_placeOf 19 = .ok (.iload_n 3, 1) := by decide +kernel
theorem dX6_placeOf_20 : decode cX6_placeOf 20 = .ok (.iadd, 1) := by decide +kernel
theorem dX6_placeOf_21 : decode cX6_placeOf 21 = .ok (.iaload, 1) := by decide +kernel
theorem dX6_placeOf_22 : decode cX6_placeOf 22 = .ok (.iload_n 2, 1) := by decide +kernel
theorem dX6_placeOf_23 : decode cX6_placeOf 23 = .ok (.if_icmp .gt 9, 3) := by decide +kernel
theorem dX6_placeOf_26 : decode cX6_placeOf 26 = .ok (.iinc 3 1, 3) := by decide +kernel
theorem dX6_placeOf_29 : decode cX6_placeOf 29 = .ok (.goto (-27), 3) := by decide +kernel
theorem dX6_placeOf_32 : decode cX6_placeOf 32 = .ok (.iload_n 3, 1) := by decide +kernel
theorem dX6_placeOf_33 : decode cX6_placeOf 33 = .ok (.ireturn, 1) := by decide +kernel
theorem dX6_drop_0 : decode cX6_drop 0 = .ok (.aload_n 0, 1) := by decide +kernel
theorem dX6_drop_1 : decode cX6_drop 1 = .ok (.iload_n 1, 1) := by decide +kernel
theorem dX6_drop_2 : decode cX6_drop 2 = .ok (.iconst 0, 1) := by decide +kernel
theorem dX6_drop_3 : decode cX6_drop 3 = .ok (.iconst 0, 1) := by decide +kernel
theorem dX6_drop_4 : decode cX6_drop 4 = .ok (.invokevirtual 217, 3) := by decide +kernel
theorem dX6_drop_7 : decode cX6_drop 7 = .ok (.aload_n 0, 1) := by decide +kernel
theorem dX6_drop_8 : decode cX6_drop 8 = .ok (.iload_n 1, 1) := by decide +kernel
theorem dX6_drop_9 : decode cX6_drop 9 = .ok (.iconst 5, 1) := by decide +kernel
theorem dX6_drop_10 : decode cX6_drop 10 = .ok (.iconst (-1), 1) := by decide +kernel
theorem dX6_drop_11 : decode cX6_drop 11 = .ok (.invokevirtual 188, 3) := by decide +kernel
theorem dX6_drop_14 : decode cX6_drop 14 = .ok (.aload_n 0, 1) := by decide +kernel
theorem dX6_drop_15 : decode cX6_drop 15 = .ok (.iload_n 1, 1) := by decide +kernel
theorem dX6_drop_16 : decode cX6_drop 16 = .ok (.bipush 9, 2) := by decide +kernel
theorem dX6_drop_18 : decode cX6_drop 18 = .ok (.iconst 1, 1) := by decide +kernel
theorem dX6_drop_19 : decode cX6_drop 19 = .ok (.invokevirtual 188, 3) := by decide +kernel
theorem dX6_drop_22 : decode cX6_drop 22 = .ok (.aload_n 0, 1) := by decide +kernel
theorem dX6_drop_23 : decode cX6_drop 23 = .ok (.iload_n 1, 1) := by decide +kernel
theorem dX6_drop_24 : decode cX6_drop 24 = .ok (.bipush 12, 2) := by decide +kernel
theorem dX6_drop_26 : decode cX6_drop 26 = .ok (.iconst (-1), 1) := by decide +kernel
theorem dX6_drop_27 : decode cX6_drop 27 = .ok (.invokevirtual 188, 3) := by decide +kernel
theorem dX6_drop_30 : decode cX6_drop 30 = .ok (.aload_n 0, 1) := by decide +kernel
theorem dX6_drop_31 : decode cX6_drop 31 = .ok (.iload_n 1, 1) := by decide +kernel
theorem dX6_drop_32 : decode cX6_drop 32 = .ok (.bipush 16, 2) := by decide +kernel
theorem dX6_drop_34 : decode cX6_drop 34 = .ok (.invokevirtual 80, 3) := by decide +kernel
theorem dX6_drop_37 : decode cX6_drop 37 = .ok (.iconst 1, 1) := by decide +kernel
theorem dX6_drop_38 : decode cX6_drop 38 = .ok (.if_icmp .ne 11, 3) := by decide +kernel
theorem dX6_drop_41 : decode cX6_drop 41 = .ok (.aload_n 0, 1) := by decide +kernel
theorem dX6_drop_42 : decode cX6_drop 42 = .ok (.iload_n 1, 1) := by decide +kernel
theorem dX6_drop_43 : decode cX6_drop 43 = .ok (.bipush 15, 2) := by decide +kernel
theorem dX6_drop_45 : decode cX6_drop 45 = .ok (.iconst (-1), 1) := by decide +kernel
theorem dX6_drop_46 : decode cX6_drop 46 = .ok (.invokevirtual 188, 3) := by decide +kernel
theorem dX6_drop_49 : decode cX6_drop 49 = .ok (.aload_n 0, 1) := by decide +kernel
theorem dX6_drop_50 : decode cX6_drop 50 = .ok (.iload_n 1, 1) := by decide +kernel
theorem dX6_drop_51 : decode cX6_drop 51 = .ok (.iconst 0, 1) := by decide +kernel
theorem dX6_drop_52 : decode cX6_drop 52 = .ok (.invokevirtual 221, 3) := by decide +kernel
theorem dX6_drop_55 : decode cX6_drop 55 = .ok (.return_, 1) := by decide +kernel
theorem dX6_isTooMany_0 : decode cX6_isTooMany 0 = .ok (.aload_n 0, 1) := by decide +kernel
theorem dX6_isTooMany_1 : decode cX6_isTooMany 1 = .ok (.iload_n 1, 1) := by decide +kernel
theorem dX6_isTooMany_2 : decode cX6_isTooMany 2 = .ok (.iconst 2, 1) := by decide +kernel
theorem dX6_isTooMany_3 : decode cX6_isTooMany 3 = .ok (.invokevirtual 80, 3) := by decide +kernel
theorem dX6_isTooMany_6 : decode cX6_isTooMany 6 = .ok (.iconst 1, 1) := by decide +kernel
theorem dX6_isTooMany_7 : decode cX6_isTooMany 7 = .ok (.if_icmp .ne 23, 3) := by decide +kernel
theorem dX6_isTooMany_10 : decode cX6_isTooMany 10 = .ok (.aload_n 0, 1) := by decide +kernel
theorem dX6_isTooMany_11 : decode cX6_isTooMany 11 = .ok (.iload_n 1, 1) := by decide +kernel
theorem dX6_isTooMany_12 : decode cX6_isTooMany 12 = .ok (.invokevirtual 116, 3) := by decide +kernel
theorem dX6_isTooMany_15 : decode cX6_isTooMany 15 = .ok (.aload_n 0, 1) := by decide +kernel
theorem dX6_isTooMany_16 : decode cX6_isTooMany 16 = .ok (.iload_n 1, 1) := by decide +kernel
theorem dX6_isTooMany_17 : decode cX6_isTooMany 17 = .ok (.iconst 3, 1) := by decide +kernel
theorem dX6_isTooMany_18 : decode cX6_isTooMany 18 = .ok (.invokevirtual 80, 3) := by decide +kernel
theorem dX6_isTooMany_21 : decode cX6_isTooMany 21 = .ok (.if_icmp .le 7, 3) := by decide +kernel
theorem dX6_isTooMany_24 : decode cX6_isTooMany 24 = .ok (.iconst 1, 1) := by decide +kernel
theorem dX6_isTooMany_25 : decode cX6_isTooMany 25 = .ok (.goto 4, 3) := by decide +kernel
theorem dX6_isTooMany_28 : decode cX6_isTooMany 28 = .ok (.iconst 0, 1) := by decide +kernel
theorem dX6_isTooMany_29 : decode cX6_isTooMany 29 = .ok (.ireturn, 1) := by decide +kernel
theorem dX6_isTooMany_30 : decode cX6_isTooMany 30 = .ok (.aload_n 0, 1) := by decide +kernel
theorem dX6_isTooMany_31 : decode cX6_isTooMany 31 = .ok (.iload_n 1, 1) := by decide +kernel
theorem dX6_isTooMany_32 : decode cX6_isTooMany 32 = .ok (.iconst 2, 1) := by decide +kernel
theorem dX6_isTooMany_33 : decode cX6_isTooMany 33 = .ok (.invokevirtual 80, 3) := by decide +kernel
theorem dX6_isTooMany_36 : decode cX6_isTooMany 36 = .ok (.iconst 2, 1) := by decide +kernel
theorem dX6_isTooMany_37 : decode cX6_isTooMany 37 = .ok (.if_icmp .ne 41, 3) := by decide +kernel
theorem dX6_isTooMany_40 : decode cX6_isTooMany 40 = .ok (.aload_n 0, 1) := by decide +kernel
theorem dX6_isTooMany_41 : decode cX6_isTooMany 41 = .ok (.iload_n 1, 1) := by decide +kernel
theorem dX6_isTooMany_42 : decode cX6_isTooMany 42 = .ok (.invokevirtual 116, 3) := by decide +kernel
theorem dX6_isTooMany_45 : decode cX6_isTooMany 45 = .ok (.ifCond .le 33, 3) := by decide +kernel
theorem dX6_isTooMany_48 : decode cX6_isTooMany 48 = .ok (.aload_n 0, 1) := by decide +kernel
theorem dX6_isTooMany_49 : decode cX6_isTooMany 49 = .ok (.getfield 13, 3) := by decide +kernel
theorem dX6_isTooMany_52 : decode cX6_isTooMany 52 = .ok (.bipush 121, 2) := by decide +kernel
theorem dX6_isTooMany_54 : decode cX6_isTooMany 54 = .ok (.iload_n 1, 1) := by decide +kernel
theorem dX6_isTooMany_55 : decode cX6_isTooMany 55 = .ok (.imul, 1) := by decide +kernel
theorem dX6_isTooMany_56 : decode cX6_isTooMany 56 = .ok (.iaload, 1) := by decide +kernel
theorem dX6_isTooMany_57 : decode cX6_isTooMany 57 = .ok (.aload_n 0, 1) := by decide +kernel
theorem dX6_isTooMany_58 : decode cX6_isTooMany 58 = .ok (.iload_n 1, 1) := by decide +kernel
theorem dX6_isTooMany_59 : decode cX6_isTooMany 59 = .ok (.bipush 6, 2) := by decide +kernel
theorem dX6_isTooMany_61 : decode cX6_isTooMany 61 = .ok (.invokevirtual 80, 3) := by decide +kernel
theorem dX6_isTooMany_64 : decode cX6_isTooMany 64 = .ok (.aload_n 0, 1) := by decide +kernel
theorem dX6_isTooMany_65 : decode cX6_isTooMany 65 = .ok (.iload_n 1, 1) := by decide +kernel
theorem dX6_isTooMany_66 : decode cX6_isTooMany 66 = .ok (.iconst 3, 1) := by decide +kernel
theorem dX6_isTooMany_67 : decode cX6_isTooMany 67 = .ok (.invokevirtual 80, 3) := by decide +kernel
theorem dX6_isTooMany_70 : decode cX6_isTooMany 70 = .ok (.isub, 1) := by decide +kernel
theorem dX6_isTooMany_71 : decode cX6_isTooMany 71 = .ok (.if_icmp .gt 7, 3) := by decide +kernel
theorem dX6_isTooMany_74 : decode cX6_isTooMany 74 = .ok (.iconst 1, 1) := by decide +kernel
theorem dX6_isTooMany_75 : decode cX6_isTooMany 75 = .ok (.goto 4, 3) := by decide +kernel
theorem dX6_isTooMany_78 : decode cX6_isTooMany 78 = .ok (.iconst 0, 1) := by decide +kernel
theorem dX6_isTooMany_79 : decode cX6_isTooMany 79 = .ok (.ireturn, 1) := by decide +kernel
theorem dX6_enter_0 : decode cX6_enter 0 = .ok (.aload_n 0, 1) := by decide +kernel
theorem dX6_enter_1 : decode cX6_enter 1 = .ok (.iload_n 1, 1) := by decide +kernel
theorem dX6_enter_2 : decode cX6_enter 2 = .ok (.iload_n 2, 1) := by decide +kernel
theorem dX6_enter_3 : decode cX6_enter 3 = .ok (.invokevirtual 224, 3) := by decide +kernel
theorem dX6_enter_6 : decode cX6_enter 6 = .ok (.istore 4, 2) := by decide +kernel
theorem dX6_enter_8 : decode cX6_enter 8 = .ok (.aload_n 0, 1) := by decide +kernel
theorem dX6_enter_9 : decode cX6_enter 9 = .ok (.iload_n 1, 1) := by decide +kernel
theorem dX6_enter_10 : decode cX6_enter 10 = .ok (.invokevirtual 116, 3) := by decide +kernel
theorem dX6_enter_13 : decode cX6_enter 13 = .ok (.iload 4, 2) := by decide +kernel
theorem dX6_enter_15 : decode cX6_enter 15 = .ok (.isub, 1) := by decide +kernel
theorem dX6_enter_16 : decode cX6_enter 16 = .ok (.istore 5, 2) := by decide +kernel
theorem dX6_enter_18 : decode cX6_enter 18 = .ok (.aload_n 0, 1) := by decide +kernel
theorem dX6_enter_19 : decode cX6_enter 19 = .ok (.iload_n 1, 1) := by decide +kernel
theorem dX6_enter_20 : decode cX6_enter 20 = .ok (.iload 4, 2) := by decide +kernel
theorem dX6_enter_22 : decode cX6_enter 22 = .ok (.iconst 1, 1) := by decide +kernel
theorem dX6_enter_23 : decode cX6_enter 23 = .ok (.invokevirtual 217, 3) := by decide +kernel
theorem dX6_enter_26 : decode cX6_enter 26 = .ok (.aload_n 0, 1) := by decide +kernel
theorem dX6_enter_27 : decode cX6_enter 27 = .ok (.getfield 13, 3) := by decide +kernel
theorem dX6_enter_30 : decode cX6_enter 30 = .ok (.bipush 121, 2) := by decide +kernel
theorem dX6_enter_32 : decode cX6_enter 32 = .ok (.iload_n 1, 1) := by decide +kernel
theorem dX6_enter_33 : decode cX6_enter 33 = .ok (.imul, 1) := by decide +kernel
theorem dX6_enter_34 : decode cX6_enter 34 = .ok (.iload 4, 2) := by decide +kernel
theorem dX6_enter_36 : decode cX6_enter 36 = .ok (.iadd, 1) := by decide +kernel
theorem dX6_enter_37 : decode cX6_enter 37 = .ok (.iload_n 2, 1) := by decide +kernel
theorem dX6_enter_38 : decode cX6_enter 38 = .ok (.iastore, 1) := by decide +kernel
theorem dX6_enter_39 : decode cX6_enter 39 = .ok (.aload_n 0, 1) := by decide +kernel
theorem dX6_enter_40 : decode cX6_enter 40 = .ok (.getfield 16, 3) := by decide +kernel
theorem dX6_enter_43 : decode cX6_enter 43 = .ok (.bipush 121, 2) := by decide +kernel
theorem dX6_enter_45 : decode cX6_enter 45 = .ok (.iload_n 1, 1) := by decide +kernel
theorem dX6_enter_46 : decode cX6_enter 46 = .ok (.imul, 1) := by decide +kernel
theorem dX6_enter_47 : decode cX6_enter 47 = .ok (.iload 4, 2) := by decide +kernel
theorem dX6_enter_49 : decode cX6_enter 49 = .ok (.iadd, 1) := by decide +kernel
theorem dX6_enter_50 : decode cX6_enter 50 = .ok (.iload_n 3, 1) := by decide +kernel
theorem dX6_enter_51 : decode cX6_enter 51 = .ok (.iastore, 1) := by decide +kernel
theorem dX6_enter_52 : decode cX6_enter 52 = .ok (.aload_n 0, 1) := by decide +kernel
theorem dX6_enter_53 : decode cX6_enter 53 = .ok (.getfield 19, 3) := by decide +kernel
theorem dX6_enter_56 : decode cX6_enter 56 = .ok (.bipush 121, 2) := by decide +kernel
theorem dX6_enter_58 : decode cX6_enter 58 = .ok (.iload_n 1, 1) := by decide +kernel
theorem dX6_enter_59 : decode cX6_enter 59 = .ok (.imul, 1) := by decide +kernel
theorem dX6_enter_60 : decode cX6_enter 60 = .ok (.iload 4, 2) := by decide +kernel
theorem dX6_enter_62 : decode cX6_enter 62 = .ok (.iadd, 1) := by decide +kernel
theorem dX6_enter_63 : decode cX6_enter 63 = .ok (.aload_n 0, 1) := by decide +kernel
theorem dX6_enter_64 : decode cX6_enter 64 = .ok (.iload_n 1, 1) := by decide +kernel
theorem dX6_enter_65 : decode cX6_enter 65 = .ok (.bipush 8, 2) := by decide +kernel
theorem dX6_enter_67 : decode cX6_enter 67 = .ok (.invokevirtual 80, 3) := by decide +kernel
theorem dX6_enter_70 : decode cX6_enter 70 = .ok (.iastore, 1) := by decide +kernel
theorem dX6_enter_71 : decode cX6_enter 71 = .ok (.aload_n 0, 1) := by decide +kernel
theorem dX6_enter_72 : decode cX6_enter 72 = .ok (.iload_n 1, 1) := by decide +kernel
theorem dX6_enter_73 : decode cX6_enter 73 = .ok (.iconst 5, 1) := by decide +kernel
theorem dX6_enter_74 : decode cX6_enter 74 = .ok (.iconst 1, 1) := by decide +kernel
theorem dX6_enter_75 : decode cX6_enter 75 = .ok (.invokevirtual 188, 3) := by decide +kernel
theorem dX6_enter_78 : decode cX6_enter 78 = .ok (.aload_n 0, 1) := by decide +kernel
theorem dX6_enter_79 : decode cX6_enter 79 = .ok (.iload_n 1, 1) := by decide +kernel
theorem dX6_enter_80 : decode cX6_enter 80 = .ok (.bipush 8, 2) := by decide +kernel
theorem dX6_enter_82 : decode cX6_enter 82 = .ok (.iconst 1, 1) := by decide +kernel
theorem dX6_enter_83 : decode cX6_enter 83 = .ok (.invokevirtual 188, 3) := by decide +kernel
theorem dX6_enter_86 : decode cX6_enter 86 = .ok (.aload_n 0, 1) := by decide +kernel
theorem dX6_enter_87 : decode cX6_enter 87 = .ok (.iload_n 1, 1) := by decide +kernel
theorem dX6_enter_88 : decode cX6_enter 88 = .ok (.bipush 10, 2) := by decide +kernel
theorem dX6_enter_90 : decode cX6_enter 90 = .ok (.iload 5, 2) := by decide +kernel
theorem dX6_enter_92 : decode cX6_enter 92 = .ok (.invokevirtual 173, 3) := by decide +kernel
theorem dX6_enter_95 : decode cX6_enter 95 = .ok (.iload_n 2, 1) := by decide +kernel
theorem dX6_enter_96 : decode cX6_enter 96 = .ok (.aload_n 0, 1) := by decide +kernel
theorem dX6_enter_97 : decode cX6_enter 97 = .ok (.iload_n 1, 1) := by decide +kernel
theorem dX6_enter_98 : decode cX6_enter 98 = .ok (.bipush 6, 2) := by decide +kernel
theorem dX6_enter_100 : decode cX6_enter 100 = .ok (.invokevirtual 80, 3) := by decide +kernel
theorem dX6_enter_103 : decode cX6_enter 103 = .ok (.if_icmp .le 11, 3) := by decide +kernel
theorem dX6_enter_106 : decode cX6_enter 106 = .ok (.aload_n 0, 1) := by decide +kernel
theorem dX6_enter_107 : decode cX6_enter 107 = .ok (.iload_n 1, 1) := by decide +kernel
theorem dX6_enter_108 : decode cX6_enter 108 = .ok (.bipush 6, 2) := by decide +kernel
theorem dX6_enter_110 : decode cX6_enter 110 = .ok (.iload_n 2, 1) := by decide +kernel
theorem dX6_enter_111 : decode cX6_enter 111 = .ok (.invokevirtual 173, 3) := by decide +kernel
theorem dX6_enter_114 : decode cX6_enter 114 = .ok (.iload 5, 2) := by decide +kernel
theorem dX6_enter_116 : decode cX6_enter 116 = .ok (.ifCond .ne 38, 3) := by decide +kernel
theorem dX6_enter_119 : decode cX6_enter 119 = .ok (.aload_n 0, 1) := by decide +kernel
theorem dX6_enter_120 : decode cX6_enter 120 = .ok (.iload_n 1, 1) := by decide +kernel
theorem dX6_enter_121 : decode cX6_enter 121 = .ok (.bipush 14, 2) := by decide +kernel
theorem dX6_enter_123 : decode cX6_enter 123 = .ok (.invokevirtual 80, 3) := by decide +kernel
theorem dX6_enter_126 : decode cX6_enter 126 = .ok (.ifCond .le 7, 3) := by decide +kernel
theorem dX6_enter_129 : decode cX6_enter 129 = .ok (.iconst 1, 1) := by decide +kernel
theorem dX6_enter_130 : decode cX6_enter 130 = .ok (.goto 4, 3) := by decide +kernel
theorem dX6_enter_133 : decode cX6_enter 133 = .ok (.iconst 0, 1) := by decide +kernel
theorem dX6_enter_134 : decode cX6_enter 134 = .ok (.istore 6, 2) := by decide +kernel
theorem dX6_enter_136 : decode cX6_enter 136 = .ok (.aload_n 0, 1) := by decide +kernel
theorem dX6_enter_137 : decode cX6_enter 137 = .ok (.iload_n 1, 1) := by decide +kernel
theorem dX6_enter_138 : decode cX6_enter 138 = .ok (.bipush 14, 2) := by decide +kernel
theorem dX6_enter_140 : decode cX6_enter 140 = .ok (.iconst 1, 1) := by decide +kernel
theorem dX6_enter_141 : decode cX6_enter 141 = .ok (.invokevirtual 188, 3) := by decide +kernel
theorem dX6_enter_144 : decode cX6_enter 144 = .ok (.aload_n 0, 1) := by decide +kernel
theorem dX6_enter_145 : decode cX6_enter 145 = .ok (.iload_n 1, 1) := by decide +kernel
theorem dX6_enter_146 : decode cX6_enter 146 = .ok (.iload 6, 2) := by decide +kernel
theorem dX6_enter_148 : decode cX6_enter 148 = .ok (.invokevirtual 221, 3) := by decide +kernel
theorem dX6_enter_151 : decode cX6_enter 151 = .ok (.goto 8, 3) := by decide +kernel
theorem dX6_enter_154 : decode cX6_enter 154 = .ok (.aload_n 0, 1) := by decide +kernel
theorem dX6_enter_155 : decode cX6_enter 155 = .ok (.iload_n 1, 1) := by decide +kernel
theorem dX6_enter_156 : decode cX6_enter 156 = .ok (.invokevirtual 227, 3) := by decide +kernel
theorem dX6_enter_159 : decode cX6_enter 159 = .ok (.aload_n 0, 1) := by decide +kernel
theorem dX6_enter_160 : decode cX6_enter 160 = .ok (.iload_n 1, 1) := by decide +kernel
theorem dX6_enter_161 : decode cX6_enter 161 = .ok (.invokevirtual 230, 3) := by decide +kernel
theorem dX6_enter_164 : decode cX6_enter 164 = .ok (.ifCond .eq 11, 3) := by decide +kernel
theorem dX6_enter_167 : decode cX6_enter 167 = .ok (.aload_n 0, 1) := by decide +kernel
theorem dX6_enter_168 : decode cX6_enter 168 = .ok (.iload_n 1, 1) := by decide +kernel
theorem dX6_enter_169 : decode cX6_enter 169 = .ok (.invokevirtual 233, 3) := by decide +kernel
theorem dX6_enter_172 : decode cX6_enter 172 = .ok (.goto (-13), 3) := by decide +kernel
theorem dX6_enter_175 : decode cX6_enter 175 = .ok (.return_, 1) := by decide +kernel
theorem dX6_seeMost_0 : decode cX6_seeMost 0 = .ok (.aload_n 0, 1) := by decide +kernel
theorem dX6_seeMost_1 : decode cX6_seeMost 1 = .ok (.iload_n 1, 1) := by decide +kernel
theorem dX6_seeMost_2 : decode cX6_seeMost 2 = .ok (.invokevirtual 116, 3) := by decide +kernel
theorem dX6_seeMost_5 : decode cX6_seeMost 5 = .ok (.aload_n 0, 1) := by decide +kernel
theorem dX6_seeMost_6 : decode cX6_seeMost 6 = .ok (.iload_n 1, 1) := by decide +kernel
theorem dX6_seeMost_7 : decode cX6_seeMost 7 = .ok (.bipush 11, 2) := by decide +kernel
theorem dX6_seeMost_9 : decode cX6_seeMost 9 = .ok (.invokevirtual 80, 3) := by decide +kernel
theorem dX6_seeMost_12 : decode cX6_seeMost 12 = .ok (.if_icmp .le 15, 3) := by decide +kernel
theorem dX6_seeMost_15 : decode cX6_seeMost 15 = .ok (.aload_n 0, 1) := by decide +kernel
theorem dX6_seeMost_16 : decode cX6_seeMost 16 = .ok (.iload_n 1, 1) := by decide +kernel
theorem dX6_seeMost_17 : decode cX6_seeMost 17 = .ok (.bipush 11, 2) := by decide +kernel
theorem dX6_seeMost_19 : decode cX6_seeMost 19 = .ok (.aload_n 0, 1) := by decide +kernel
theorem dX6_seeMost_20 : decode cX6_seeMost 20 = .ok (.iload_n 1, 1) := by decide +kernel
theorem dX6_seeMost_21 : decode cX6_seeMost 21 = .ok (.invokevirtual 116, 3) := by decide +kernel
theorem dX6_seeMost_24 : decode cX6_seeMost 24 = .ok (.invokevirtual 173, 3) := by decide +kernel
theorem dX6_seeMost_27 : decode cX6_seeMost 27 = .ok (.return_, 1) := by decide +kernel
theorem dX6_behindCall_0 : decode cX6_behindCall 0 = .ok (.aload_n 0, 1) := by decide +kernel
theorem dX6_behindCall_1 : decode cX6_behindCall 1 = .ok (.iload_n 1, 1) := by decide +kernel
theorem dX6_behindCall_2 : decode cX6_behindCall 2 = .ok (.invokevirtual 236, 3) := by decide +kernel
theorem dX6_behindCall_5 : decode cX6_behindCall 5 = .ok (.aload_n 0, 1) := by decide +kernel
theorem dX6_behindCall_6 : decode cX6_behindCall 6 = .ok (.getfield 52, 3) := by decide +kernel
theorem dX6_behindCall_9 : decode cX6_behindCall 9 = .ok (.iload_n 1, 1) := by decide +kernel
theorem dX6_behindCall_10 : decode cX6_behindCall 10 = .ok (.iaload, 1) := by decide +kernel
theorem dX6_behindCall_11 : decode cX6_behindCall 11 = .ok (.ifCond .lt 13, 3) := by decide +kernel
theorem dX6_behindCall_14 : decode cX6_behindCall 14 = .ok (.aload_n 0, 1) := by decide +kernel
theorem dX6_behindCall_15 : decode cX6_behindCall 15 = .ok (.aload_n 0, 1) := by decide +kernel
theorem dX6_behindCall_16 : decode cX6_behindCall 16 = .ok (.getfield 52, 3) := by decide +kernel
theorem dX6_behindCall_19 : decode cX6_behindCall 19 = .ok (.iload_n 1, 1) := by decide +kernel
theorem dX6_behindCall_20 : decode cX6_behindCall 20 = .ok (.iaload, 1) := by decide +kernel
theorem dX6_behindCall_21 : decode cX6_behindCall 21 = .ok (.invokevirtual 236, 3) := by decide +kernel
theorem dX6_behindCall_24 : decode cX6_behindCall 24 = .ok (.aload_n 0, 1) := by decide +kernel
theorem dX6_behindCall_25 : decode cX6_behindCall 25 = .ok (.iload_n 1, 1) := by decide +kernel
theorem dX6_behindCall_26 : decode cX6_behindCall 26 = .ok (.invokevirtual 116, 3) := by decide +kernel
theorem dX6_behindCall_29 : decode cX6_behindCall 29 = .ok (.ireturn, 1) := by decide +kernel
theorem dX6_isLinkedTo_0 : decode cX6_isLinkedTo 0 = .ok (.iconst 0, 1) := by decide +kernel
theorem dX6_isLinkedTo_1 : decode cX6_isLinkedTo 1 = .ok (.istore_n 2, 1) := by decide +kernel
theorem dX6_isLinkedTo_2 : decode cX6_isLinkedTo 2 = .ok (.iload_n 2, 1) := by decide +kernel
theorem dX6_isLinkedTo_3 : decode cX6_isLinkedTo 3 = .ok (.iconst 4, 1) := by decide +kernel
theorem dX6_isLinkedTo_4 : decode cX6_isLinkedTo 4 = .ok (.if_icmp .ge 21, 3) := by decide +kernel
theorem dX6_isLinkedTo_7 : decode cX6_isLinkedTo 7 = .ok (.aload_n 0, 1) := by decide +kernel
theorem dX6_isLinkedTo_8 : decode cX6_isLinkedTo 8 = .ok (.getfield 52, 3) := by decide +kernel
theorem dX6_isLinkedTo_11 : decode cX6_isLinkedTo 11 = .ok (.iload_n 2, 1) := by decide +kernel
theorem dX6_isLinkedTo_12 : decode cX6_isLinkedTo 12 = .ok (.iaload, 1) := by decide +kernel
theorem dX6_isLinkedTo_13 : decode cX6_isLinkedTo 13 = .ok (.iload_n 1, 1) := by decide +kernel
theorem dX6_isLinkedTo_14 : decode cX6_isLinkedTo 14 = .ok (.if_icmp .ne 5, 3) := by decide +kernel
theorem dX6_isLinkedTo_17 : decode cX6_isLinkedTo 17 = .ok (.iconst 1, 1) := by decide +kernel
theorem dX6_isLinkedTo_18 : decode cX6_isLinkedTo 18 = .ok (.ireturn, 1) := by decide +kernel
theorem dX6_isLinkedTo_19 : decode cX6_isLinkedTo 19 = .ok (.iinc 2 1, 3) := by decide +kernel
theorem dX6_isLinkedTo_22 : decode cX6_isLinkedTo 22 = .ok (.goto (-20), 3) := by decide +kernel
theorem dX6_isLinkedTo_25 : decode cX6_isLinkedTo 25 = .ok (.iconst 0, 1) := by decide +kernel
theorem dX6_isLinkedTo_26 : decode cX6_isLinkedTo 26 = .ok (.ireturn, 1) := by decide +kernel
theorem dX6_endLinks_0 : decode cX6_endLinks 0 = .ok (.aload_n 0, 1) := by decide +kernel
theorem dX6_endLinks_1 : decode cX6_endLinks 1 = .ok (.getfield 52, 3) := by decide +kernel
theorem dX6_endLinks_4 : decode cX6_endLinks 4 = .ok (.iload_n 1, 1) := by decide +kernel
theorem dX6_endLinks_5 : decode cX6_endLinks 5 = .ok (.iconst (-1), 1) := by decide +kernel
theorem dX6_endLinks_6 : decode cX6_endLinks 6 = .ok (.iastore, 1) := by decide +kernel
theorem dX6_endLinks_7 : decode cX6_endLinks 7 = .ok (.iconst 0, 1) := by decide +kernel
theorem dX6_endLinks_8 : decode cX6_endLinks 8 = .ok (.istore_n 2, 1) := by decide +kernel
theorem dX6_endLinks_9 : decode cX6_endLinks 9 = .ok (.iload_n 2, 1) := by decide +kernel
theorem dX6_endLinks_10 : decode cX6_endLinks 10 = .ok (.iconst 4, 1) := by decide +kernel
theorem dX6_endLinks_11 : decode cX6_endLinks 11 = .ok (.if_icmp .ge 26, 3) := by decide +kernel
theorem dX6_endLinks_14 : decode cX6_endLinks 14 = .ok (.aload_n 0, 1) := by decide +kernel
theorem dX6_endLinks_15 : decode cX6_endLinks 15 = .ok (.getfield 52, 3) := by decide +kernel
theorem dX6_endLinks_18 : decode cX6_endLinks 18 = .ok (.iload_n 2, 1) := by decide +kernel
theorem dX6_endLinks_19 : decode cX6_endLinks 19 = .ok (.iaload, 1) := by decide +kernel
theorem dX6_endLinks_20 : decode cX6_endLinks 20 = .ok (.iload_n 1, 1) := by decide +kernel
theorem dX6_endLinks_21 : decode cX6_endLinks 21 = .ok (.if_icmp .ne 10, 3) := by decide +kernel
theorem dX6_endLinks_24 : decode cX6_endLinks 24 = .ok (.aload_n 0, 1) := by decide +kernel
theorem dX6_endLinks_25 : decode cX6_endLinks 25 = .ok (.getfield 52, 3) := by decide +kernel
theorem dX6_endLinks_28 : decode cX6_endLinks 28 = .ok (.iload_n 2, 1) := by decide +kernel
theorem dX6_endLinks_29 : decode cX6_endLinks 29 = .ok (.iconst (-1), 1) := by decide +kernel
theorem dX6_endLinks_30 : decode cX6_endLinks 30 = .ok (.iastore, 1) := by decide +kernel
theorem dX6_endLinks_31 : decode cX6_endLinks 31 = .ok (.iinc 2 1, 3) := by decide +kernel
theorem dX6_endLinks_34 : decode cX6_endLinks 34 = .ok (.goto (-25), 3) := by decide +kernel
theorem dX6_endLinks_37 : decode cX6_endLinks 37 = .ok (.return_, 1) := by decide +kernel
theorem dX6_link_0 : decode cX6_link 0 = .ok (.aload_n 0, 1) := by decide +kernel
theorem dX6_link_1 : decode cX6_link 1 = .ok (.iload_n 2, 1) := by decide +kernel
theorem dX6_link_2 : decode cX6_link 2 = .ok (.invokevirtual 124, 3) := by decide +kernel
theorem dX6_link_5 : decode cX6_link 5 = .ok (.ifCond .eq 45, 3) := by decide +kernel
theorem dX6_link_8 : decode cX6_link 8 = .ok (.iload_n 1, 1) := by decide +kernel
theorem dX6_link_9 : decode cX6_link 9 = .ok (.iload_n 2, 1) := by decide +kernel
theorem dX6_link_10 : decode cX6_link 10 = .ok (.if_icmp .eq 40, 3) := by decide +kernel
theorem dX6_link_13 : decode cX6_link 13 = .ok (.aload_n 0, 1) := by decide +kernel
theorem dX6_link_14 : decode cX6_link 14 = .ok (.iload_n 1, 1) := by decide +kernel
theorem dX6_link_15 : decode cX6_link 15 = .ok (.iload 4, 2) := by decide +kernel
theorem dX6_link_17 : decode cX6_link 17 = .ok (.invokevirtual 207, 3) := by decide +kernel
theorem dX6_link_20 : decode cX6_link 20 = .ok (.ifCond .eq 30, 3) := by decide +kernel
theorem dX6_link_23 : decode cX6_link 23 = .ok (.iload_n 3, 1) := by decide +kernel
theorem dX6_link_24 : decode cX6_link 24 = .ok (.iconst 0, 1) := by decide +kernel
theorem dX6_link_25 : decode cX6_link 25 = .ok (.ldc 239, 2) := by decide +kernel
theorem dX6_link_27 : decode cX6_link 27 = .ok (.invokestatic 76, 3) := by decide +kernel
theorem dX6_link_30 : decode cX6_link 30 = .ok (.ifCond .eq 20, 3) := by decide +kernel
theorem dX6_link_33 : decode cX6_link 33 = .ok (.aload_n 0, 1) := by decide +kernel
theorem dX6_link_34 : decode cX6_link 34 = .ok (.getfield 52, 3) := by decide +kernel
theorem dX6_link_37 : decode cX6_link 37 = .ok (.iload_n 2, 1) := by decide +kernel
theorem dX6_link_38 : decode cX6_link 38 = .ok (.iaload, 1) := by decide +kernel
theorem dX6_link_39 : decode cX6_link 39 = .ok (.ifCond .ge 11, 3) := by decide +kernel
theorem dX6_link_42 : decode cX6_link 42 = .ok (.aload_n 0, 1) := by decide +kernel
theorem dX6_link_43 : decode cX6_link 43 = .ok (.iload_n 1, 1) := by decide +kernel
theorem dX6_link_44 : decode cX6_link 44 = .ok (.invokevirtual 240, 3) := by decide +kernel
theorem dX6_link_47 : decode cX6_link 47 = .ok (.ifCond .eq 5, 3) := by decide +kernel
theorem dX6_link_50 : decode cX6_link 50 = .ok (.iconst 0, 1) := by decide +kernel
theorem dX6_link_51 : decode cX6_link 51 = .ok (.ireturn, 1) := by decide +kernel
theorem dX6_link_52 : decode cX6_link 52 = .ok (.aload_n 0, 1) := by decide +kernel
theorem dX6_link_53 : decode cX6_link 53 = .ok (.getfield 52, 3) := by decide +kernel
theorem dX6_link_56 : decode cX6_link 56 = .ok (.iload_n 1, 1) := by decide +kernel
theorem dX6_link_57 : decode cX6_link 57 = .ok (.iload_n 2, 1) := by decide +kernel
theorem dX6_link_58 : decode cX6_link 58 = .ok (.iastore, 1) := by decide +kernel
theorem dX6_link_59 : decode cX6_link 59 = .ok (.aload_n 0, 1) := by decide +kernel
theorem dX6_link_60 : decode cX6_link 60 = .ok (.getfield 55, 3) := by decide +kernel
theorem dX6_link_63 : decode cX6_link 63 = .ok (.iload_n 1, 1) := by decide +kernel
theorem dX6_link_64 : decode cX6_link 64 = .ok (.iload_n 3, 1) := by decide +kernel
theorem dX6_link_65 : decode cX6_link 65 = .ok (.iastore, 1) := by decide +kernel
theorem dX6_link_66 : decode cX6_link 66 = .ok (.aload_n 0, 1) := by decide +kernel
theorem dX6_link_67 : decode cX6_link 67 = .ok (.getfield 58, 3) := by decide +kernel
theorem dX6_link_70 : decode cX6_link 70 = .ok (.iload_n 1, 1) := by decide +kernel
theorem dX6_link_71 : decode cX6_link 71 = .ok (.iload 4, 2) := by decide +kernel
theorem dX6_link_73 : decode cX6_link 73 = .ok (.iastore, 1) := by decide +kernel
theorem dX6_link_74 : decode cX6_link 74 = .ok (.aload_n 0, 1) := by decide +kernel
theorem dX6_link_75 : decode cX6_link 75 = .ok (.getfield 61, 3) := by decide +kernel
theorem dX6_link_78 : decode cX6_link 78 = .ok (.iload_n 1, 1) := by decide +kernel
theorem dX6_link_79 : decode cX6_link 79 = .ok (.iconst 0, 1) := by decide +kernel
theorem dX6_link_80 : decode cX6_link 80 = .ok (.iastore, 1) := by decide +kernel
theorem dX6_link_81 : decode cX6_link 81 = .ok (.iconst 1, 1) := by decide +kernel
theorem dX6_link_82 : decode cX6_link 82 = .ok (.ireturn, 1) := by decide +kernel
theorem dX6_unlink_0 : decode cX6_unlink 0 = .ok (.aload_n 0, 1) := by decide +kernel
theorem dX6_unlink_1 : decode cX6_unlink 1 = .ok (.iload_n 1, 1) := by decide +kernel
theorem dX6_unlink_2 : decode cX6_unlink 2 = .ok (.invokevirtual 124, 3) := by decide +kernel
theorem dX6_unlink_5 : decode cX6_unlink 5 = .ok (.ifCond .eq 12, 3) := by decide +kernel
theorem dX6_unlink_8 : decode cX6_unlink 8 = .ok (.aload_n 0, 1) := by decide +kernel
theorem dX6_unlink_9 : decode cX6_unlink 9 = .ok (.getfield 52, 3) := by decide +kernel
theorem dX6_unlink_12 : decode cX6_unlink 12 = .ok (.iload_n 1, 1) := by decide +kernel
theorem dX6_unlink_13 : decode cX6_unlink 13 = .ok (.iaload, 1) := by decide +kernel
theorem dX6_unlink_14 : decode cX6_unlink 14 = .ok (.ifCond .ge 5, 3) := by decide +kernel
theorem dX6_unlink_17 : decode cX6_unlink 17 = .ok (.iconst 0, 1) := by decide +kernel
theorem dX6_unlink_18 : decode cX6_unlink 18 = .ok (.ireturn, 1) := by decide +kernel
theorem dX6_unlink_19 : decode cX6_unlink 19 = .ok (.aload_n 0, 1) := by decide +kernel
theorem dX6_unlink_20 : decode cX6_unlink 20 = .ok (.getfield 52, 3) := by decide +kernel
theorem dX6_unlink_23 : decode cX6_unlink 23 = .ok (.iload_n 1, 1) := by decide +kernel
theorem dX6_unlink_24 : decode cX6_unlink 24 = .ok (.iconst (-1), 1) := by decide +kernel
theorem dX6_unlink_25 : decode cX6_unlink 25 = .ok (.iastore, 1) := by decide +kernel
theorem dX6_unlink_26 : decode cX6_unlink 26 = .ok (.iconst 1, 1) := by decide +kernel
theorem dX6_unlink_27 : decode cX6_unlink 27 = .ok (.ireturn, 1) := by decide +kernel
theorem dX6_linked_0 : decode cX6_linked 0 = .ok (.aload_n 0, 1) := by decide +kernel
theorem dX6_linked_1 : decode cX6_linked 1 = .ok (.iload_n 1, 1) := by decide +kernel
theorem dX6_linked_2 : decode cX6_linked 2 = .ok (.invokevirtual 124, 3) := by decide +kernel
theorem dX6_linked_5 : decode cX6_linked 5 = .ok (.ifCond .eq 12, 3) := by decide +kernel
theorem dX6_linked_8 : decode cX6_linked 8 = .ok (.aload_n 0, 1) := by decide +kernel
theorem dX6_linked_9 : decode cX6_linked 9 = .ok (.getfield 52, 3) := by decide +kernel
theorem dX6_linked_12 : decode cX6_linked 12 = .ok (.iload_n 1, 1) := by decide +kernel
theorem dX6_linked_13 : decode cX6_linked 13 = .ok (.iaload, 1) := by decide +kernel
theorem dX6_linked_14 : decode cX6_linked 14 = .ok (.ifCond .ge 5, 3) := by decide +kernel
theorem dX6_linked_17 : decode cX6_linked 17 = .ok (.iconst (-1), 1) := by decide +kernel
theorem dX6_linked_18 : decode cX6_linked 18 = .ok (.ireturn, 1) := by decide +kernel
theorem dX6_linked_19 : decode cX6_linked 19 = .ok (.iload_n 2, 1) := by decide +kernel
theorem dX6_linked_20 : decode cX6_linked 20 = .ok (.tableswitch 60 0 3 #[32, 39, 46, 53], 32) := by decide +kernel
theorem dX6_linked_52 : decode cX6_linked 52 = .ok (.aload_n 0, 1) := by decide +kernel
theorem dX6_linked_53 : decode cX6_linked 53 = .ok (.getfield 52, 3) := by decide +kernel
theorem dX6_linked_56 : decode cX6_linked 56 = .ok (.iload_n 1, 1) := by decide +kernel
theorem dX6_linked_57 : decode cX6_linked 57 = .ok (.iaload, 1) := by decide +kernel
theorem dX6_linked_58 : decode cX6_linked 58 = .ok (.ireturn, 1) := by decide +kernel
theorem dX6_linked_59 : decode cX6_linked 59 = .ok (.aload_n 0, 1) := by decide +kernel
theorem dX6_linked_60 : decode cX6_linked 60 = .ok (.getfield 55, 3) := by decide +kernel
theorem dX6_linked_63 : decode cX6_linked 63 = .ok (.iload_n 1, 1) := by decide +kernel
theorem dX6_linked_64 : decode cX6_linked 64 = .ok (.iaload, 1) := by decide +kernel
theorem dX6_linked_65 : decode cX6_linked 65 = .ok (.ireturn, 1) := by decide +kernel
theorem dX6_linked_66 : decode cX6_linked 66 = .ok (.aload_n 0, 1) := by decide +kernel
theorem dX6_linked_67 : decode cX6_linked 67 = .ok (.getfield 58, 3) := by decide +kernel
theorem dX6_linked_70 : decode cX6_linked 70 = .ok (.iload_n 1, 1) := by decide +kernel
theorem dX6_linked_71 : decode cX6_linked 71 = .ok (.iaload, 1) := by decide +kernel
theorem dX6_linked_72 : decode cX6_linked 72 = .ok (.ireturn, 1) := by decide +kernel
theorem dX6_linked_73 : decode cX6_linked 73 = .ok (.aload_n 0, 1) := by decide +kernel
theorem dX6_linked_74 : decode cX6_linked 74 = .ok (.getfield 61, 3) := by decide +kernel
theorem dX6_linked_77 : decode cX6_linked 77 = .ok (.iload_n 1, 1) := by decide +kernel
theorem dX6_linked_78 : decode cX6_linked 78 = .ok (.iaload, 1) := by decide +kernel
theorem dX6_linked_79 : decode cX6_linked 79 = .ok (.ireturn, 1) := by decide +kernel
theorem dX6_linked_80 : decode cX6_linked 80 = .ok (.iconst (-1), 1) := by decide +kernel
theorem dX6_linked_81 : decode cX6_linked 81 = .ok (.ireturn, 1) := by decide +kernel
theorem dX6_isLost_0 : decode cX6_isLost 0 = .ok (.aload_n 0, 1) := by decide +kernel
theorem dX6_isLost_1 : decode cX6_isLost 1 = .ok (.iload_n 1, 1) := by decide +kernel
theorem dX6_isLost_2 : decode cX6_isLost 2 = .ok (.bipush 6, 2) := by decide +kernel
theorem dX6_isLost_4 : decode cX6_isLost 4 = .ok (.invokevirtual 80, 3) := by decide +kernel
theorem dX6_isLost_7 : decode cX6_isLost 7 = .ok (.ifCond .lt 25, 3) := by decide +kernel
theorem dX6_isLost_10 : decode cX6_isLost 10 = .ok (.iload_n 2, 1) := by decide +kernel
theorem dX6_isLost_11 : decode cX6_isLost 11 = .ok (.aload_n 0, 1) := by decide +kernel
theorem dX6_isLost_12 : decode cX6_isLost 12 = .ok (.iload_n 1, 1) := by decide +kernel
theorem dX6_isLost_13 : decode cX6_isLost 13 = .ok (.bipush 6, 2) := by decide +kernel
theorem dX6_isLost_15 : decode cX6_isLost 15 = .ok (.invokevirtual 80, 3) := by decide +kernel
theorem dX6_isLost_18 : decode cX6_isLost 18 = .ok (.aload_n 0, 1) := by decide +kernel
theorem dX6_isLost_19 : decode cX6_isLost 19 = .ok (.iload_n 1, 1) := by decide +kernel
theorem dX6_isLost_20 : decode cX6_isLost 20 = .ok (.iconst 4, 1) := by decide +kernel
theorem dX6_isLost_21 : decode cX6_isLost 21 = .ok (.invokevirtual 80, 3) := by decide +kernel
theorem dX6_isLost_24 : decode cX6_isLost 24 = .ok (.isub, 1) := by decide +kernel
theorem dX6_isLost_25 : decode cX6_isLost 25 = .ok (.if_icmp .ge 7, 3) := by decide +kernel
theorem dX6_isLost_28 : decode cX6_isLost 28 = .ok (.iconst 1, 1) := by decide +kernel
theorem dX6_isLost_29 : decode cX6_isLost 29 = .ok (.goto 4, 3) := by decide +kernel
theorem dX6_isLost_32 : decode cX6_isLost 32 = .ok (.iconst 0, 1) := by decide +kernel
theorem dX6_isLost_33 : decode cX6_isLost 33 = .ok (.ireturn, 1) := by decide +kernel
theorem dX6_isFull_0 : decode cX6_isFull 0 = .ok (.aload_n 0, 1) := by decide +kernel
theorem dX6_isFull_1 : decode cX6_isFull 1 = .ok (.iload_n 1, 1) := by decide +kernel
theorem dX6_isFull_2 : decode cX6_isFull 2 = .ok (.iconst 2, 1) := by decide +kernel
theorem dX6_isFull_3 : decode cX6_isFull 3 = .ok (.invokevirtual 80, 3) := by decide +kernel
theorem dX6_isFull_6 : decode cX6_isFull 6 = .ok (.iconst 1, 1) := by decide +kernel
theorem dX6_isFull_7 : decode cX6_isFull 7 = .ok (.if_icmp .eq 17, 3) := by decide +kernel
theorem dX6_isFull_10 : decode cX6_isFull 10 = .ok (.aload_n 0, 1) := by decide +kernel
theorem dX6_isFull_11 : decode cX6_isFull 11 = .ok (.iload_n 1, 1) := by decide +kernel
theorem dX6_isFull_12 : decode cX6_isFull 12 = .ok (.invokevirtual 116, 3) := by decide +kernel
theorem dX6_isFull_15 : decode cX6_isFull 15 = .ok (.bipush 120, 2) := by decide +kernel
theorem dX6_isFull_17 : decode cX6_isFull 17 = .ok (.if_icmp .ne 7, 3) := by decide +kernel
theorem dX6_isFull_20 : decode cX6_isFull 20 = .ok (.iconst 1, 1) := by decide +kernel
theorem dX6_isFull_21 : decode cX6_isFull 21 = .ok (.goto 4, 3) := by decide +kernel
theorem dX6_isFull_24 : decode cX6_isFull 24 = .ok (.iconst 0, 1) := by decide +kernel
theorem dX6_isFull_25 : decode cX6_isFull 25 = .ok (.ireturn, 1) := by decide +kernel
theorem dX6_give_0 : decode cX6_give 0 = .ok (.aload_n 0, 1) := by decide +kernel
theorem dX6_give_1 : decode cX6_give 1 = .ok (.getfield 52, 3) := by decide +kernel
theorem dX6_give_4 : decode cX6_give 4 = .ok (.iload_n 1, 1) := by decide +kernel
theorem dX6_give_5 : decode cX6_give 5 = .ok (.iaload, 1) := by decide +kernel
theorem dX6_give_6 : decode cX6_give 6 = .ok (.ifCond .lt 11, 3) := by decide +kernel
theorem dX6_give_9 : decode cX6_give 9 = .ok (.aload_n 0, 1) := by decide +kernel
theorem dX6_give_10 : decode cX6_give 10 = .ok (.iload_n 1, 1) := by decide +kernel
theorem dX6_give_11 : decode cX6_give 11 = .ok (.invokevirtual 116, 3) := by decide +kernel
theorem dX6_give_14 : decode cX6_give 14 = .ok (.ifCond .ne 4, 3) := by decide +kernel
theorem dX6_give_17 : decode cX6_give 17 = .ok (.return_, 1) := by decide +kernel
theorem dX6_give_18 : decode cX6_give 18 = .ok (.aload_n 0, 1) := by decide +kernel
theorem dX6_give_19 : decode cX6_give 19 = .ok (.iload_n 1, 1) := by decide +kernel
theorem dX6_give_20 : decode cX6_give 20 = .ok (.invokevirtual 116, 3) := by decide +kernel
theorem dX6_give_23 : decode cX6_give 23 = .ok (.iconst 1, 1) := by decide +kernel
theorem dX6_give_24 : decode cX6_give 24 = .ok (.isub, 1) := by decide +kernel
theorem dX6_give_25 : decode cX6_give 25 = .ok (.istore_n 3, 1) := by decide +kernel
theorem dX6_give_26 : decode cX6_give 26 = .ok (.aload_n 0, 1) := by decide +kernel
theorem dX6_give_27 : decode cX6_give 27 = .ok (.getfield 13, 3) := by decide +kernel
theorem dX6_give_30 : decode cX6_give 30 = .ok (.bipush 121, 2) := by decide +kernel
theorem dX6_give_32 : decode cX6_give 32 = .ok (.iload_n 1, 1) := by decide +kernel
theorem dX6_give_33 : decode cX6_give 33 = .ok (.imul, 1) := by decide +kernel
theorem dX6_give_34 : decode cX6_give 34 = .ok (.iload_n 3, 1) := by decide +kernel
theorem dX6_give_35 : decode cX6_give 35 = .ok (.iadd, 1) := by decide +kernel
theorem dX6_give_36 : decode cX6_give 36 = .ok (.iaload, 1) := by decide +kernel
theorem dX6_give_37 : decode cX6_give 37 = .ok (.istore 4, 2) := by decide +kernel
theorem dX6_give_39 : decode cX6_give 39 = .ok (.iload_n 2, 1) := by decide +kernel
theorem dX6_give_40 : decode cX6_give 40 = .ok (.iload 4, 2) := by decide +kernel
theorem dX6_give_42 : decode cX6_give 42 = .ok (.isub, 1) := by decide +kernel
theorem dX6_give_43 : decode cX6_give 43 = .ok (.aload_n 0, 1) := by decide +kernel
theorem dX6_give_44 : decode cX6_give 44 = .ok (.getfield 55, 3) := by decide +kernel
theorem dX6_give_47 : decode cX6_give 47 = .ok (.iload_n 1, 1) := by decide +kernel
theorem dX6_give_48 : decode cX6_give 48 = .ok (.iaload, 1) := by decide +kernel
theorem dX6_give_49 : decode cX6_give 49 = .ok (.if_icmp .gt 4, 3) := by decide +kernel
theorem dX6_give_52 : decode cX6_give 52 = .ok (.return_, 1) := by decide +kernel
theorem dX6_give_53 : decode cX6_give 53 = .ok (.iload_n 3, 1) := by decide +kernel
theorem dX6_give_54 : decode cX6_give 54 = .ok (.istore 5, 2) := by decide +kernel
theorem dX6_give_56 : decode cX6_give 56 = .ok (.iload 5, 2) := by decide +kernel
theorem dX6_give_58 : decode cX6_give 58 = .ok (.ifCond .le 45, 3) := by decide +kernel
theorem dX6_give_61 : decode cX6_give 61 = .ok (.aload_n 0, 1) := by decide +kernel
theorem dX6_give_62 : decode cX6_give 62 = .ok (.getfield 13, 3) := by decide +kernel
theorem dX6_give_65 : decode cX6_give 65 = .ok (.bipush 121, 2) := by decide +kernel
theorem dX6_give_67 : decode cX6_give 67 = .ok (.iload_n 1, 1) := by decide +kernel
theorem dX6_give_68 : decode cX6_give 68 = .ok (.imul, 1) := by decide +kernel
theorem dX6_give_69 : decode cX6_give 69 = .ok (.iload 5, 2) := by decide +kernel
theorem dX6_give_71 : decode cX6_give 71 = .ok (.iadd, 1) := by decide +kernel
theorem dX6_give_72 : decode cX6_give 72 = .ok (.iaload, 1) := by decide +kernel
theorem dX6_give_73 : decode cX6_give 73 = .ok (.aload_n 0, 1) := by decide +kernel
theorem dX6_give_74 : decode cX6_give 74 = .ok (.getfield 13, 3) := by decide +kernel
theorem dX6_give_77 : decode cX6_give 77 = .ok (.bipush 121, 2) := by decide +kernel
theorem dX6_give_79 : decode cX6_give 79 = .ok (.iload_n 1, 1) := by decide +kernel
theorem dX6_give_80 : decode cX6_give 80 = .ok (.imul, 1) := by decide +kernel
theorem dX6_give_81 : decode cX6_give 81 = .ok (.iload 5, 2) := by decide +kernel
theorem dX6_give_83 : decode cX6_give 83 = .ok (.iadd, 1) := by decide +kernel
theorem dX6_give_84 : decode cX6_give 84 = .ok (.iconst 1, 1) := by decide +kernel
theorem dX6_give_85 : decode cX6_give 85 = .ok (.isub, 1) := by decide +kernel
theorem dX6_give_86 : decode cX6_give 86 = .ok (.iaload, 1) := by decide +kernel
theorem dX6_give_87 : decode cX6_give 87 = .ok (.isub, 1) := by decide +kernel
theorem dX6_give_88 : decode cX6_give 88 = .ok (.aload_n 0, 1) := by decide +kernel
theorem dX6_give_89 : decode cX6_give 89 = .ok (.getfield 55, 3) := by decide +kernel
theorem dX6_give_92 : decode cX6_give 92 = .ok (.iload_n 1, 1) := by decide +kernel
theorem dX6_give_93 : decode cX6_give 93 = .ok (.iaload, 1) := by decide +kernel
theorem dX6_give_94 : decode cX6_give 94 = .ok (.if_icmp .gt 9, 3) := by decide +kernel
theorem dX6_give_97 : decode cX6_give 97 = .ok (.iinc 5 (-1), 3) := by decide +kernel
theorem dX6_give_100 : decode cX6_give 100 = .ok (.goto (-44), 3) := by decide +kernel
theorem dX6_give_103 : decode cX6_give 103 = .ok (.aload_n 0, 1) := by decide +kernel
theorem dX6_give_104 : decode cX6_give 104 = .ok (.iload_n 1, 1) := by decide +kernel
theorem dX6_give_105 : decode cX6_give 105 = .ok (.iload 5, 2) := by decide +kernel
theorem dX6_give_107 : decode cX6_give 107 = .ok (.iload_n 3, 1) := by decide +kernel
theorem dX6_give_108 : decode cX6_give 108 = .ok (.aload_n 0, 1) := by decide +kernel
theorem dX6_give_109 : decode cX6_give 109 = .ok (.getfield 58, 3) := by decide +kernel
theorem dX6_give_112 : decode cX6_give 112 = .ok (.iload_n 1, 1) := by decide +kernel
theorem dX6_give_113 : decode cX6_give 113 = .ok (.iaload, 1) := by decide +kernel
theorem dX6_give_114 : decode cX6_give 114 = .ok (.invokevirtual 243, 3) := by decide +kernel
theorem dX6_give_117 : decode cX6_give 117 = .ok (.istore 6, 2) := by decide +kernel
theorem dX6_give_119 : decode cX6_give 119 = .ok (.iload 6, 2) := by decide +kernel
theorem dX6_give_121 : decode cX6_give 121 = .ok (.ldc 160, 2) := by decide +kernel
theorem dX6_give_123 : decode cX6_give 123 = .ok (.if_icmp .ne 4, 3) := by decide +kernel
theorem dX6_give_126 : decode cX6_give 126 = .ok (.return_, 1) := by decide +kernel
theorem dX6_give_127 : decode cX6_give 127 = .ok (.aload_n 0, 1) := by decide +kernel
theorem dX6_give_128 : decode cX6_give 128 = .ok (.getfield 52, 3) := by decide +kernel
theorem dX6_give_131 : decode cX6_give 131 = .ok (.iload_n 1, 1) := by decide +kernel
theorem dX6_give_132 : decode cX6_give 132 = .ok (.iaload, 1) := by decide +kernel
theorem dX6_give_133 : decode cX6_give 133 = .ok (.istore 7, 2) := by decide +kernel
theorem dX6_give_135 : decode cX6_give 135 = .ok (.aload_n 0, 1) := by decide +kernel
theorem dX6_give_136 : decode cX6_give 136 = .ok (.iload 7, 2) := by decide +kernel
theorem dX6_give_138 : decode cX6_give 138 = .ok (.iload 4, 2) := by decide +kernel
theorem dX6_give_140 : decode cX6_give 140 = .ok (.invokevirtual 247, 3) := by decide +kernel
theorem dX6_give_143 : decode cX6_give 143 = .ok (.ifCond .eq 13, 3) := by decide +kernel
theorem dX6_give_146 : decode cX6_give 146 = .ok (.aload_n 0, 1) := by decide +kernel
theorem dX6_give_147 : decode cX6_give 147 = .ok (.iload 7, 2) := by decide +kernel
theorem dX6_give_149 : decode cX6_give 149 = .ok (.bipush 7, 2) := by decide +kernel
theorem dX6_give_151 : decode cX6_give 151 = .ok (.iconst 1, 1) := by decide +kernel
theorem dX6_give_152 : decode cX6_give 152 = .ok (.invokevirtual 188, 3) := by decide +kernel
theorem dX6_give_155 : decode cX6_give 155 = .ok (.return_, 1) := by decide +kernel
theorem dX6_give_156 : decode cX6_give 156 = .ok (.aload_n 0, 1) := by decide +kernel
theorem dX6_give_157 : decode cX6_give 157 = .ok (.iload 7, 2) := by decide +kernel
theorem dX6_give_159 : decode cX6_give 159 = .ok (.invokevirtual 250, 3) := by decide +kernel
theorem dX6_give_162 : decode cX6_give 162 = .ok (.ifCond .eq 4, 3) := by decide +kernel
theorem dX6_give_165 : decode cX6_give 165 = .ok (.return_, 1) := by decide +kernel
theorem dX6_give_166 : decode cX6_give 166 = .ok (.aload_n 0, 1) := by decide +kernel
theorem dX6_give_167 : decode cX6_give 167 = .ok (.getfield 61, 3) := by decide +kernel
theorem dX6_give_170 : decode cX6_give 170 = .ok (.iload_n 1, 1) := by decide +kernel
