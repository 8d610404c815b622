theorem dX6_steps_42 : decode cX6_steps 42 = .ok (.goto 4, 3) := k_167 zcX6_steps rfl rfl rfl
theorem dX6_steps_45 : decode cX6_steps 45 = .ok (.iconst 0, 1) := k_3 zcX6_steps rfl rfl
theorem dX6_steps_46 : decode cX6_steps 46 = .ok (.iadd, 1) := k_96 zcX6_steps rfl rfl
theorem dX6_steps_47 : decode cX6_steps 47 = .ok (.istore_n 1, 1) := k_60 zcX6_steps rfl rfl
theorem dX6_steps_48 : decode cX6_steps 48 = .ok (.iload_n 2, 1) := k_28 zcX6_steps rfl rfl
theorem dX6_steps_49 : decode cX6_steps 49 = .ok (.aload_n 0, 1) := k_42 zcX6_steps rfl rfl
theorem dX6_steps_50 : decode cX6_steps 50 = .ok (.getfield 28, 3) := k_180 zcX6_steps rfl rfl rfl
theorem dX6_steps_53 : decode cX6_steps 53 = .ok (.iload 5, 2) := k_21 zcX6_steps rfl rfl rfl
theorem dX6_steps_55 : decode cX6_steps 55 = .ok (.iaload, 1) := k_46 zcX6_steps rfl rfl
theorem dX6_steps_56 : decode cX6_steps 56 = .ok (.aload_n 0, 1) := k_42 zcX6_steps rfl rfl
theorem dX6_steps_57 : decode cX6_steps 57 = .ok (.getfield 28, 3) := k_180 zcX6_steps rfl rfl rfl
theorem dX6_steps_60 : decode cX6_steps 60 = .ok (.iload 5, 2) := k_21 zcX6_steps rfl rfl rfl
theorem dX6_steps_62 : decode cX6_steps 62 = .ok (.iconst 1, 1) := k_4 zcX6_steps rfl rfl
theorem dX6_steps_63 : decode cX6_steps 63 = .ok (.isub, 1) := k_100 zcX6_steps rfl rfl
theorem dX6_steps_64 : decode cX6_steps 64 = .ok (.iaload, 1) := k_46 zcX6_steps rfl rfl
theorem dX6_steps_65 : decode cX6_steps 65 = .ok (.if_icmp .le 7, 3) := k_164 zcX6_steps rfl rfl rfl
theorem dX6_steps_68 : decode cX6_steps 68 = .ok (.iconst 1, 1) := k_4 zcX6_steps rfl rfl
theorem dX6_steps_69 : decode cX6_steps 69 = .ok (.goto 4, 3) := k_167 zcX6_steps rfl rfl rfl
theorem dX6_steps_72 : decode cX6_steps 72 = .ok (.iconst 0, 1) := k_3 zcX6_steps rfl rfl
theorem dX6_steps_73 : decode cX6_steps 73 = .ok (.iadd, 1) := k_96 zcX6_steps rfl rfl
theorem dX6_steps_74 : decode cX6_steps 74 = .ok (.istore_n 2, 1) := k_61 zcX6_steps rfl rfl
theorem dX6_steps_75 : decode cX6_steps 75 = .ok (.aload_n 0, 1) := k_42 zcX6_steps rfl rfl
theorem dX6_steps_76 : decode cX6_steps 76 = .ok (.getfield 28, 3) := k_180 zcX6_steps rfl rfl rfl
theorem dX6_steps_79 : decode cX6_steps 79 = .ok (.iload 5, 2) := k_21 zcX6_steps rfl rfl rfl
theorem dX6_steps_81 : decode cX6_steps 81 = .ok (.iaload, 1) := k_46 zcX6_steps rfl rfl
theorem dX6_steps_82 : decode cX6_steps 82 = .ok (.aload_n 0, 1) := k_42 zcX6_steps rfl rfl
theorem dX6_steps_83 : decode cX6_steps 83 = .ok (.getfield 28, 3) := k_180 zcX6_steps rfl rfl rfl
theorem dX6_steps_86 : decode cX6_steps 86 = .ok (.iload 5, 2) := k_21 zcX6_steps rfl rfl rfl
theorem dX6_steps_88 : decode cX6_steps 88 = .ok (.iconst 1, 1) := k_4 zcX6_steps rfl rfl
theorem dX6_steps_89 : decode cX6_steps 89 = .ok (.isub, 1) := k_100 zcX6_steps rfl rfl
theorem dX6_steps_90 : decode cX6_steps 90 = .ok (.iaload, 1) := k_46 zcX6_steps rfl rfl
theorem dX6_steps_91 : decode cX6_steps 91 = .ok (.if_icmp .ge 7, 3) := k_162 zcX6_steps rfl rfl rfl
theorem dX6_steps_94 : decode cX6_steps 94 = .ok (.iconst 1, 1) := k_4 zcX6_steps rfl rfl
theorem dX6_steps_95 : decode cX6_steps 95 = .ok (.goto 6, 3) := k_167 zcX6_steps rfl rfl rfl
theorem dX6_steps_98 : decode cX6_steps 98 = .ok (.iload_n 3, 1) := k_29 zcX6_steps rfl rfl
theorem dX6_steps_99 : decode cX6_steps 99 = .ok (.iconst 1, 1) := k_4 zcX6_steps rfl rfl
theorem dX6_steps_100 : decode cX6_steps 100 = .ok (.iadd, 1) := k_96 zcX6_steps rfl rfl
theorem dX6_steps_101 : decode cX6_steps 101 = .ok (.istore_n 3, 1) := k_62 zcX6_steps rfl rfl
theorem dX6_steps_102 : decode cX6_steps 102 = .ok (.iload_n 3, 1) := k_29 zcX6_steps rfl rfl
theorem dX6_steps_103 : decode cX6_steps 103 = .ok (.iload 4, 2) := k_21 zcX6_steps rfl rfl rfl
theorem dX6_steps_105 : decode cX6_steps 105 = .ok (.if_icmp .le 6, 3) := k_164 zcX6_steps rfl rfl rfl
theorem dX6_steps_108 : decode cX6_steps 108 = .ok (.iload_n 3, 1) := k_29 zcX6_steps rfl rfl
theorem dX6_steps_109 : decode cX6_steps 109 = .ok (.istore 4, 2) := k_54 zcX6_steps rfl rfl rfl
theorem dX6_steps_111 : decode cX6_steps 111 = .ok (.iinc 5 1, 3) := k_132 zcX6_steps rfl rfl rfl rfl
theorem dX6_steps_114 : decode cX6_steps 114 = .ok (.goto (-102), 3) := k_167 zcX6_steps rfl rfl rfl
theorem dX6_steps_117 : decode cX6_steps 117 = .ok (.aload_n 0, 1) := k_42 zcX6_steps rfl rfl
theorem dX6_steps_118 : decode cX6_steps 118 = .ok (.getfield 31, 3) := k_180 zcX6_steps rfl rfl rfl
theorem dX6_steps_121 : decode cX6_steps 121 = .ok (.iconst 0, 1) := k_3 zcX6_steps rfl rfl
theorem dX6_steps_122 : decode cX6_steps 122 = .ok (.iload_n 1, 1) := k_27 zcX6_steps rfl rfl
theorem dX6_steps_123 : decode cX6_steps 123 = .ok (.iastore, 1) := k_79 zcX6_steps rfl rfl
theorem dX6_steps_124 : decode cX6_steps 124 = .ok (.aload_n 0, 1) := k_42 zcX6_steps rfl rfl
theorem dX6_steps_125 : decode cX6_steps 125 = .ok (.getfield 31, 3) := k_180 zcX6_steps rfl rfl rfl
theorem dX6_steps_128 : decode cX6_steps 128 = .ok (.iconst 1, 1) := k_4 zcX6_steps rfl rfl
theorem dX6_steps_129 : decode cX6_steps 129 = .ok (.iload_n 2, 1) := k_28 zcX6_steps rfl rfl
theorem dX6_steps_130 : decode cX6_steps 130 = .ok (.iastore, 1) := k_79 zcX6_steps rfl rfl
theorem dX6_steps_131 : decode cX6_steps 131 = .ok (.aload_n 0, 1) := k_42 zcX6_steps rfl rfl
theorem dX6_steps_132 : decode cX6_steps 132 = .ok (.getfield 31, 3) := k_180 zcX6_steps rfl rfl rfl
theorem dX6_steps_135 : decode cX6_steps 135 = .ok (.iconst 2, 1) := k_5 zcX6_steps rfl rfl
theorem dX6_steps_136 : decode cX6_steps 136 = .ok (.aload_n 0, 1) := k_42 zcX6_steps rfl rfl
theorem dX6_steps_137 : decode cX6_steps 137 = .ok (.getfield 28, 3) := k_180 zcX6_steps rfl rfl rfl
theorem dX6_steps_140 : decode cX6_steps 140 = .ok (.iconst 0, 1) := k_3 zcX6_steps rfl rfl
theorem dX6_steps_141 : decode cX6_steps 141 = .ok (.iaload, 1) := k_46 zcX6_steps rfl rfl
theorem dX6_steps_142 : decode cX6_steps 142 = .ok (.iastore, 1) := k_79 zcX6_steps rfl rfl
theorem dX6_steps_143 : decode cX6_steps 143 = .ok (.aload_n 0, 1) := k_42 zcX6_steps rfl rfl
theorem dX6_steps_144 : decode cX6_steps 144 = .ok (.getfield 31, 3) := k_180 zcX6_steps rfl rfl rfl
theorem dX6_steps_147 : decode cX6_steps 147 = .ok (.iconst 3, 1) := k_6 zcX6_steps rfl rfl
theorem dX6_steps_148 : decode cX6_steps 148 = .ok (.aload_n 0, 1) := k_42 zcX6_steps rfl rfl
theorem dX6_steps_149 : decode cX6_steps 149 = .ok (.getfield 28, 3) := k_180 zcX6_steps rfl rfl rfl
theorem dX6_steps_152 : decode cX6_steps 152 = .ok (.aload_n 0, 1) := k_42 zcX6_steps rfl rfl
theorem dX6_steps_153 : decode cX6_steps 153 = .ok (.getfield 105, 3) := k_180 zcX6_steps rfl rfl rfl
theorem dX6_steps_156 : decode cX6_steps 156 = .ok (.iconst 1, 1) := k_4 zcX6_steps rfl rfl
theorem dX6_steps_157 : decode cX6_steps 157 = .ok (.isub, 1) := k_100 zcX6_steps rfl rfl
theorem dX6_steps_158 : decode cX6_steps 158 = .ok (.iaload, 1) := k_46 zcX6_steps rfl rfl
theorem dX6_steps_159 : decode cX6_steps 159 = .ok (.iastore, 1) := k_79 zcX6_steps rfl rfl
theorem dX6_steps_160 : decode cX6_steps 160 = .ok (.aload_n 0, 1) := k_42 zcX6_steps rfl rfl
theorem dX6_steps_161 : decode cX6_steps 161 = .ok (.getfield 31, 3) := k_180 zcX6_steps rfl rfl rfl
theorem dX6_steps_164 : decode cX6_steps 164 = .ok (.iconst 4, 1) := k_7 zcX6_steps rfl rfl
theorem dX6_steps_165 : decode cX6_steps 165 = .ok (.iload 4, 2) := k_21 zcX6_steps rfl rfl rfl
theorem dX6_steps_167 : decode cX6_steps 167 = .ok (.iastore, 1) := k_79 zcX6_steps rfl rfl
theorem dX6_steps_168 : decode cX6_steps 168 = .ok (.return_, 1) := k_177 zcX6_steps rfl rfl
theorem dX6_spread_0 : decode cX6_spread 0 = .ok (.ldc 160, 2) := k_18 zcX6_spread rfl rfl rfl
theorem dX6_spread_2 : decode cX6_spread 2 = .ok (.istore_n 1, 1) := k_60 zcX6_spread rfl rfl
theorem dX6_spread_3 : decode cX6_spread 3 = .ok (.ldc 160, 2) := k_18 zcX6_spread rfl rfl rfl
theorem dX6_spread_5 : decode cX6_spread 5 = .ok (.istore_n 2, 1) := k_61 zcX6_spread rfl rfl
theorem dX6_spread_6 : decode cX6_spread 6 = .ok (.iconst 0, 1) := k_3 zcX6_spread rfl rfl
theorem dX6_spread_7 : decode cX6_spread 7 = .ok (.istore_n 3, 1) := k_62 zcX6_spread rfl rfl
theorem dX6_spread_8 : decode cX6_spread 8 = .ok (.iconst 0, 1) := k_3 zcX6_spread rfl rfl
theorem dX6_spread_9 : decode cX6_spread 9 = .ok (.istore 4, 2) := k_54 zcX6_spread rfl rfl rfl
theorem dX6_spread_11 : decode cX6_spread 11 = .ok (.iload 4, 2) := k_21 zcX6_spread rfl rfl rfl
theorem dX6_spread_13 : decode cX6_spread 13 = .ok (.aload_n 0, 1) := k_42 zcX6_spread rfl rfl
theorem dX6_spread_14 : decode cX6_spread 14 = .ok (.getfield 105, 3) := k_180 zcX6_spread rfl rfl rfl
theorem dX6_spread_17 : decode cX6_spread 17 = .ok (.if_icmp .ge 86, 3) := k_162 zcX6_spread rfl rfl rfl
theorem dX6_spread_20 : decode cX6_spread 20 = .ok (.aload_n 0, 1) := k_42 zcX6_spread rfl rfl
theorem dX6_spread_21 : decode cX6_spread 21 = .ok (.getfield 28, 3) := k_180 zcX6_spread rfl rfl rfl
theorem dX6_spread_24 : decode cX6_spread 24 = .ok (.iload 4, 2) := k_21 zcX6_spread rfl rfl rfl
theorem dX6_spread_26 : decode cX6_spread 26 = .ok (.iaload, 1) := k_46 zcX6_spread rfl rfl
theorem dX6_spread_27 : decode cX6_spread 27 = .ok (.ifCond .ne 6, 3) := k_154 zcX6_spread rfl rfl rfl
theorem dX6_spread_30 : decode cX6_spread 30 = .ok (.iinc 3 1, 3) := k_132 zcX6_spread rfl rfl rfl rfl
theorem dX6_spread_33 : decode cX6_spread 33 = .ok (.aload_n 0, 1) := k_42 zcX6_spread rfl rfl
theorem dX6_spread_34 : decode cX6_spread 34 = .ok (.getfield 28, 3) := k_180 zcX6_spread rfl rfl rfl
theorem dX6_spread_37 : decode cX6_spread 37 = .ok (.iload 4, 2) := k_21 zcX6_spread rfl rfl rfl
theorem dX6_spread_39 : decode cX6_spread 39 = .ok (.iaload, 1) := k_46 zcX6_spread rfl rfl
theorem dX6_spread_40 : decode cX6_spread 40 = .ok (.ifCond .le 28, 3) := k_158 zcX6_spread rfl rfl rfl
theorem dX6_spread_43 : decode cX6_spread 43 = .ok (.iload_n 1, 1) := k_27 zcX6_spread rfl rfl
theorem dX6_spread_44 : decode cX6_spread 44 = .ok (.ldc 160, 2) := k_18 zcX6_spread rfl rfl rfl
theorem dX6_spread_46 : decode cX6_spread 46 = .ok (.if_icmp .eq 14, 3) := k_159 zcX6_spread rfl rfl rfl
theorem dX6_spread_49 : decode cX6_spread 49 = .ok (.aload_n 0, 1) := k_42 zcX6_spread rfl rfl
theorem dX6_spread_50 : decode cX6_spread 50 = .ok (.getfield 28, 3) := k_180 zcX6_spread rfl rfl rfl
theorem dX6_spread_53 : decode cX6_spread 53 = .ok (.iload 4, 2) := k_21 zcX6_spread rfl rfl rfl
theorem dX6_spread_55 : decode cX6_spread 55 = .ok (.iaload, 1) := k_46 zcX6_spread rfl rfl
theorem dX6_spread_56 : decode cX6_spread 56 = .ok (.iload_n 1, 1) := k_27 zcX6_spread rfl rfl
theorem dX6_spread_57 : decode cX6_spread 57 = .ok (.if_icmp .ge 11, 3) := k_162 zcX6_spread rfl rfl rfl
theorem dX6_spread_60 : decode cX6_spread 60 = .ok (.aload_n 0, 1) := k_42 zcX6_spread rfl rfl
theorem dX6_spread_61 : decode cX6_spread 61 = .ok (.getfield 28, 3) := k_180 zcX6_spread rfl rfl rfl
theorem dX6_spread_64 : decode cX6_spread 64 = .ok (.iload 4, 2) := k_21 zcX6_spread rfl rfl rfl
theorem dX6_spread_66 : decode cX6_spread 66 = .ok (.iaload, 1) := k_46 zcX6_spread rfl rfl
theorem dX6_spread_67 : decode cX6_spread 67 = .ok (.istore_n 1, 1) := k_60 zcX6_spread rfl rfl
theorem dX6_spread_68 : decode cX6_spread 68 = .ok (.aload_n 0, 1) := k_42 zcX6_spread rfl rfl
theorem dX6_spread_69 : decode cX6_spread 69 = .ok (.getfield 28, 3) := k_180 zcX6_spread rfl rfl rfl
theorem dX6_spread_72 : decode cX6_spread 72 = .ok (.iload 4, 2) := k_21 zcX6_spread rfl rfl rfl
theorem dX6_spread_74 : decode cX6_spread 74 = .ok (.iaload, 1) := k_46 zcX6_spread rfl rfl
theorem dX6_spread_75 : decode cX6_spread 75 = .ok (.ifCond .ge 22, 3) := k_156 zcX6_spread rfl rfl rfl
theorem dX6_spread_78 : decode cX6_spread 78 = .ok (.aload_n 0, 1) := k_42 zcX6_spread rfl rfl
theorem dX6_spread_79 : decode cX6_spread 79 = .ok (.getfield 28, 3) := k_180 zcX6_spread rfl rfl rfl
theorem dX6_spread_82 : decode cX6_spread 82 = .ok (.iload 4, 2) := k_21 zcX6_spread rfl rfl rfl
theorem dX6_spread_84 : decode cX6_spread 84 = .ok (.iaload, 1) := k_46 zcX6_spread rfl rfl
theorem dX6_spread_85 : decode cX6_spread 85 = .ok (.iload_n 2, 1) := k_28 zcX6_spread rfl rfl
theorem dX6_spread_86 : decode cX6_spread 86 = .ok (.if_icmp .le 11, 3) := k_164 zcX6_spread rfl rfl rfl
theorem dX6_spread_89 : decode cX6_spread 89 = .ok (.aload_n 0, 1) := k_42 zcX6_spread rfl rfl
theorem dX6_spread_90 : decode cX6_spread 90 = .ok (.getfield 28, 3) := k_180 zcX6_spread rfl rfl rfl
theorem dX6_spread_93 : decode cX6_spread 93 = .ok (.iload 4, 2) := k_21 zcX6_spread rfl rfl rfl
theorem dX6_spread_95 : decode cX6_spread 95 = .ok (.iaload, 1) := k_46 zcX6_spread rfl rfl
theorem dX6_spread_96 : decode cX6_spread 96 = .ok (.istore_n 2, 1) := k_61 zcX6_spread rfl rfl
theorem dX6_spread_97 : decode cX6_spread 97 = .ok (.iinc 4 1, 3) := k_132 zcX6_spread rfl rfl rfl rfl
theorem dX6_spread_100 : decode cX6_spread 100 = .ok (.goto (-89), 3) := k_167 zcX6_spread rfl rfl rfl
theorem dX6_spread_103 : decode cX6_spread 103 = .ok (.aload_n 0, 1) := k_42 zcX6_spread rfl rfl
theorem dX6_spread_104 : decode cX6_spread 104 = .ok (.getfield 31, 3) := k_180 zcX6_spread rfl rfl rfl
theorem dX6_spread_107 : decode cX6_spread 107 = .ok (.iconst 0, 1) := k_3 zcX6_spread rfl rfl
theorem dX6_spread_108 : decode cX6_spread 108 = .ok (.iload_n 1, 1) := k_27 zcX6_spread rfl rfl
theorem dX6_spread_109 : decode cX6_spread 109 = .ok (.iastore, 1) := k_79 zcX6_spread rfl rfl
theorem dX6_spread_110 : decode cX6_spread 110 = .ok (.aload_n 0, 1) := k_42 zcX6_spread rfl rfl
theorem dX6_spread_111 : decode cX6_spread 111 = .ok (.getfield 31, 3) := k_180 zcX6_spread rfl rfl rfl
theorem dX6_spread_114 : decode cX6_spread 114 = .ok (.iconst 1, 1) := k_4 zcX6_spread rfl rfl
theorem dX6_spread_115 : decode cX6_spread 115 = .ok (.iload_n 2, 1) := k_28 zcX6_spread rfl rfl
theorem dX6_spread_116 : decode cX6_spread 116 = .ok (.iastore, 1) := k_79 zcX6_spread rfl rfl
theorem dX6_spread_117 : decode cX6_spread 117 = .ok (.aload_n 0, 1) := k_42 zcX6_spread rfl rfl
theorem dX6_spread_118 : decode cX6_spread 118 = .ok (.getfield 31, 3) := k_180 zcX6_spread rfl rfl rfl
theorem dX6_spread_121 : decode cX6_spread 121 = .ok (.iconst 2, 1) := k_5 zcX6_spread rfl rfl
theorem dX6_spread_122 : decode cX6_spread 122 = .ok (.iload_n 3, 1) := k_29 zcX6_spread rfl rfl
theorem dX6_spread_123 : decode cX6_spread 123 = .ok (.iastore, 1) := k_79 zcX6_spread rfl rfl
theorem dX6_spread_124 : decode cX6_spread 124 = .ok (.return_, 1) := k_177 zcX6_spread rfl rfl
theorem dX6_multiply_0 : decode cX6_multiply 0 = .ok (.aload_n 0, 1) := k_42 zcX6_multiply rfl rfl
theorem dX6_multiply_1 : decode cX6_multiply 1 = .ok (.getfield 28, 3) := k_180 zcX6_multiply rfl rfl rfl
theorem dX6_multiply_4 : decode cX6_multiply 4 = .ok (.iconst 0, 1) := k_3 zcX6_multiply rfl rfl
theorem dX6_multiply_5 : decode cX6_multiply 5 = .ok (.iaload, 1) := k_46 zcX6_multiply rfl rfl
theorem dX6_multiply_6 : decode cX6_multiply 6 = .ok (.iconst 4, 1) := k_7 zcX6_multiply rfl rfl
theorem dX6_multiply_7 : decode cX6_multiply 7 = .ok (.invokestatic 164, 3) := k_184 zcX6_multiply rfl rfl rfl
theorem dX6_multiply_10 : decode cX6_multiply 10 = .ok (.istore_n 1, 1) := k_60 zcX6_multiply rfl rfl
theorem dX6_multiply_11 : decode cX6_multiply 11 = .ok (.iconst 1, 1) := k_4 zcX6_multiply rfl rfl
theorem dX6_multiply_12 : decode cX6_multiply 12 = .ok (.istore_n 2, 1) := k_61 zcX6_multiply rfl rfl
theorem dX6_multiply_13 : decode cX6_multiply 13 = .ok (.iload_n 2, 1) := k_28 zcX6_multiply rfl rfl
theorem dX6_multiply_14 : decode cX6_multiply 14 = .ok (.aload_n 0, 1) := k_42 zcX6_multiply rfl rfl
theorem dX6_multiply_15 : decode cX6_multiply 15 = .ok (.getfield 105, 3) := k_180 zcX6_multiply rfl rfl rfl
theorem dX6_multiply_18 : decode cX6_multiply 18 = .ok (.if_icmp .ge 25, 3) := k_162 zcX6_multiply rfl rfl rfl
theorem dX6_multiply_21 : decode cX6_multiply 21 = .ok (.aload_n 0, 1) := k_42 zcX6_multiply rfl rfl
theorem dX6_multiply_22 : decode cX6_multiply 22 = .ok (.iload_n 1, 1) := k_27 zcX6_multiply rfl rfl
theorem dX6_multiply_23 : decode cX6_multiply 23 = .ok (.aload_n 0, 1) := k_42 zcX6_multiply rfl rfl
theorem dX6_multiply_24 : decode cX6_multiply 24 = .ok (.getfield 28, 3) := k_180 zcX6_multiply rfl rfl rfl
theorem dX6_multiply_27 : decode cX6_multiply 27 = .ok (.iload_n 2, 1) := k_28 zcX6_multiply rfl rfl
theorem dX6_multiply_28 : decode cX6_multiply 28 = .ok (.iaload, 1) := k_46 zcX6_multiply rfl rfl
theorem dX6_multiply_29 : decode cX6_multiply 29 = .ok (.iconst 4, 1) := k_7 zcX6_multiply rfl rfl
theorem dX6_multiply_30 : decode cX6_multiply 30 = .ok (.invokestatic 164, 3) := k_184 zcX6_multiply rfl rfl rfl
theorem dX6_multiply_33 : decode cX6_multiply 33 = .ok (.invokevirtual 88, 3) := k_182 zcX6_multiply rfl rfl rfl
theorem dX6_multiply_36 : decode cX6_multiply 36 = .ok (.istore_n 1, 1) := k_60 zcX6_multiply rfl rfl
theorem dX6_multiply_37 : decode cX6_multiply 37 = .ok (.iinc 2 1, 3) := k_132 zcX6_multiply rfl rfl rfl rfl
theorem dX6_multiply_40 : decode cX6_multiply 40 = .ok (.goto (-27), 3) := k_167 zcX6_multiply rfl rfl rfl
theorem dX6_multiply_43 : decode cX6_multiply 43 = .ok (.aload_n 0, 1) := k_42 zcX6_multiply rfl rfl
theorem dX6_multiply_44 : decode cX6_multiply 44 = .ok (.getfield 31, 3) := k_180 zcX6_multiply rfl rfl rfl
theorem dX6_multiply_47 : decode cX6_multiply 47 = .ok (.iconst 0, 1) := k_3 zcX6_multiply rfl rfl
theorem dX6_multiply_48 : decode cX6_multiply 48 = .ok (.iload_n 1, 1) := k_27 zcX6_multiply rfl rfl
theorem dX6_multiply_49 : decode cX6_multiply 49 = .ok (.iastore, 1) := k_79 zcX6_multiply rfl rfl
theorem dX6_multiply_50 : decode cX6_multiply 50 = .ok (.return_, 1) := k_177 zcX6_multiply rfl rfl
theorem dX6_isReached_0 : decode cX6_isReached 0 = .ok (.iload_n 0, 1) := k_26 zcX6_isReached rfl rfl
theorem dX6_isReached_1 : decode cX6_isReached 1 = .ok (.ldc 160, 2) := k_18 zcX6_isReached rfl rfl rfl
theorem dX6_isReached_3 : decode cX6_isReached 3 = .ok (.if_icmp .eq 12, 3) := k_159 zcX6_isReached rfl rfl rfl
theorem dX6_isReached_6 : decode cX6_isReached 6 = .ok (.iload_n 0, 1) := k_26 zcX6_isReached rfl rfl
theorem dX6_isReached_7 : decode cX6_isReached 7 = .ok (.iload_n 1, 1) := k_27 zcX6_isReached rfl rfl
theorem dX6_isReached_8 : decode cX6_isReached 8 = .ok (.if_icmp .lt 7, 3) := k_161 zcX6_isReached rfl rfl rfl
theorem dX6_isReached_11 : decode cX6_isReached 11 = .ok (.iconst 1, 1) := k_4 zcX6_isReached rfl rfl
theorem dX6_isReached_12 : decode cX6_isReached 12 = .ok (.goto 4, 3) := k_167 zcX6_isReached rfl rfl rfl
theorem dX6_isReached_15 : decode cX6_isReached 15 = .ok (.iconst 0, 1) := k_3 zcX6_isReached rfl rfl
theorem dX6_isReached_16 : decode cX6_isReached 16 = .ok (.ireturn, 1) := k_172 zcX6_isReached rfl rfl
theorem dX6_open_0 : decode cX6_open 0 = .ok (.iload_n 1, 1) := k_27 zcX6_open rfl rfl
theorem dX6_open_1 : decode cX6_open 1 = .ok (.iconst 0, 1) := k_3 zcX6_open rfl rfl
theorem dX6_open_2 : decode cX6_open 2 = .ok (.iconst 3, 1) := k_6 zcX6_open rfl rfl
theorem dX6_open_3 : decode cX6_open 3 = .ok (.invokestatic 76, 3) := k_184 zcX6_open rfl rfl rfl
theorem dX6_open_6 : decode cX6_open 6 = .ok (.ifCond .eq 34, 3) := k_153 zcX6_open rfl rfl rfl
theorem dX6_open_9 : decode cX6_open 9 = .ok (.iload_n 2, 1) := k_28 zcX6_open rfl rfl
theorem dX6_open_10 : decode cX6_open 10 = .ok (.iconst 0, 1) := k_3 zcX6_open rfl rfl
theorem dX6_open_11 : decode cX6_open 11 = .ok (.bipush 9, 2) := k_16 zcX6_open rfl rfl rfl
theorem dX6_open_13 : decode cX6_open 13 = .ok (.invokestatic 76, 3) := k_184 zcX6_open rfl rfl rfl
theorem dX6_open_16 : decode cX6_open 16 = .ok (.ifCond .eq 24, 3) := k_153 zcX6_open rfl rfl rfl
theorem dX6_open_19 : decode cX6_open 19 = .ok (.iload_n 3, 1) := k_29 zcX6_open rfl rfl
theorem dX6_open_20 : decode cX6_open 20 = .ok (.iconst 0, 1) := k_3 zcX6_open rfl rfl
theorem dX6_open_21 : decode cX6_open 21 = .ok (.iconst 2, 1) := k_5 zcX6_open rfl rfl
theorem dX6_open_22 : decode cX6_open 22 = .ok (.invokestatic 76, 3) := k_184 zcX6_open rfl rfl rfl
theorem dX6_open_25 : decode cX6_open 25 = .ok (.ifCond .eq 15, 3) := k_153 zcX6_open rfl rfl rfl
theorem dX6_open_28 : decode cX6_open 28 = .ok (.iload 5, 2) := k_21 zcX6_open rfl rfl rfl
theorem dX6_open_30 : decode cX6_open 30 = .ok (.iconst 0, 1) := k_3 zcX6_open rfl rfl
theorem dX6_open_31 : decode cX6_open 31 = .ok (.sipush 10000, 3) := k_17 zcX6_open rfl rfl rfl
theorem dX6_open_34 : decode cX6_open 34 = .ok (.invokestatic 76, 3) := k_184 zcX6_open rfl rfl rfl
theorem dX6_open_37 : decode cX6_open 37 = .ok (.ifCond .ne 5, 3) := k_154 zcX6_open rfl rfl rfl
theorem dX6_open_40 : decode cX6_open 40 = .ok (.iconst (-1), 1) := k_2 zcX6_open rfl rfl
theorem dX6_open_41 : decode cX6_open 41 = .ok (.ireturn, 1) := k_172 zcX6_open rfl rfl
theorem dX6_open_42 : decode cX6_open 42 = .ok (.iload_n 3, 1) := k_29 zcX6_open rfl rfl
theorem dX6_open_43 : decode cX6_open 43 = .ok (.iconst 1, 1) := k_4 zcX6_open rfl rfl
theorem dX6_open_44 : decode cX6_open 44 = .ok (.if_icmp .ne 14, 3) := k_160 zcX6_open rfl rfl rfl
theorem dX6_open_47 : decode cX6_open 47 = .ok (.iload 4, 2) := k_21 zcX6_open rfl rfl rfl
theorem dX6_open_49 : decode cX6_open 49 = .ok (.iconst 1, 1) := k_4 zcX6_open rfl rfl
theorem dX6_open_50 : decode cX6_open 50 = .ok (.bipush 120, 2) := k_16 zcX6_open rfl rfl rfl
theorem dX6_open_52 : decode cX6_open 52 = .ok (.invokestatic 76, 3) := k_184 zcX6_open rfl rfl rfl
theorem dX6_open_55 : decode cX6_open 55 = .ok (.ifCond .eq 20, 3) := k_153 zcX6_open rfl rfl rfl
theorem dX6_open_58 : decode cX6_open 58 = .ok (.iload_n 3, 1) := k_29 zcX6_open rfl rfl
theorem dX6_open_59 : decode cX6_open 59 = .ok (.iconst 2, 1) := k_5 zcX6_open rfl rfl
theorem dX6_open_60 : decode cX6_open 60 = .ok (.if_icmp .ne 17, 3) := k_160 zcX6_open rfl rfl rfl
theorem dX6_open_63 : decode cX6_open 63 = .ok (.iload 4, 2) := k_21 zcX6_open rfl rfl rfl
theorem dX6_open_65 : decode cX6_open 65 = .ok (.iconst 1, 1) := k_4 zcX6_open rfl rfl
theorem dX6_open_66 : decode cX6_open 66 = .ok (.sipush 10000, 3) := k_17 zcX6_open rfl rfl rfl
theorem dX6_open_69 : decode cX6_open 69 = .ok (.invokestatic 76, 3) := k_184 zcX6_open rfl rfl rfl
theorem dX6_open_72 : decode cX6_open 72 = .ok (.ifCond .ne 5, 3) := k_154 zcX6_open rfl rfl rfl
theorem dX6_open_75 : decode cX6_open 75 = .ok (.iconst (-1), 1) := k_2 zcX6_open rfl rfl
theorem dX6_open_76 : decode cX6_open 76 = .ok (.ireturn, 1) := k_172 zcX6_open rfl rfl
theorem dX6_open_77 : decode cX6_open 77 = .ok (.iload_n 2, 1) := k_28 zcX6_open rfl rfl
theorem dX6_open_78 : decode cX6_open 78 = .ok (.bipush 9, 2) := k_16 zcX6_open rfl rfl rfl
theorem dX6_open_80 : decode cX6_open 80 = .ok (.if_icmp .ne 12, 3) := k_160 zcX6_open rfl rfl rfl
theorem dX6_open_83 : decode cX6_open 83 = .ok (.aload_n 0, 1) := k_42 zcX6_open rfl rfl
theorem dX6_open_84 : decode cX6_open 84 = .ok (.invokevirtual 98, 3) := k_182 zcX6_open rfl rfl rfl
theorem dX6_open_87 : decode cX6_open 87 = .ok (.ifCond .lt 5, 3) := k_155 zcX6_open rfl rfl rfl
theorem dX6_open_90 : decode cX6_open 90 = .ok (.iconst (-1), 1) := k_2 zcX6_open rfl rfl
theorem dX6_open_91 : decode cX6_open 91 = .ok (.ireturn, 1) := k_172 zcX6_open rfl rfl
theorem dX6_open_92 : decode cX6_open 92 = .ok (.iconst 0, 1) := k_3 zcX6_open rfl rfl
theorem dX6_open_93 : decode cX6_open 93 = .ok (.istore 6, 2) := k_54 zcX6_open rfl rfl rfl
theorem dX6_open_95 : decode cX6_open 95 = .ok (.iload 6, 2) := k_21 zcX6_open rfl rfl rfl
theorem dX6_open_97 : decode cX6_open 97 = .ok (.bipush 22, 2) := k_16 zcX6_open rfl rfl rfl
theorem dX6_open_99 : decode cX6_open 99 = .ok (.if_icmp .ge 17, 3) := k_162 zcX6_open rfl rfl rfl
theorem dX6_open_102 : decode cX6_open 102 = .ok (.aload_n 0, 1) := k_42 zcX6_open rfl rfl
theorem dX6_open_103 : decode cX6_open 103 = .ok (.iload_n 1, 1) := k_27 zcX6_open rfl rfl
theorem dX6_open_104 : decode cX6_open 104 = .ok (.iload 6, 2) := k_21 zcX6_open rfl rfl rfl
theorem dX6_open_106 : decode cX6_open 106 = .ok (.iconst 0, 1) := k_3 zcX6_open rfl rfl
theorem dX6_open_107 : decode cX6_open 107 = .ok (.invokevirtual 173, 3) := k_182 zcX6_open rfl rfl rfl
theorem dX6_open_110 : decode cX6_open 110 = .ok (.iinc 6 1, 3) := k_132 zcX6_open rfl rfl rfl rfl
theorem dX6_open_113 : decode cX6_open 113 = .ok (.goto (-18), 3) := k_167 zcX6_open rfl rfl rfl
theorem dX6_open_116 : decode cX6_open 116 = .ok (.aload_n 0, 1) := k_42 zcX6_open rfl rfl
theorem dX6_open_117 : decode cX6_open 117 = .ok (.iload_n 1, 1) := k_27 zcX6_open rfl rfl
theorem dX6_open_118 : decode cX6_open 118 = .ok (.iconst 0, 1) := k_3 zcX6_open rfl rfl
theorem dX6_open_119 : decode cX6_open 119 = .ok (.iconst 1, 1) := k_4 zcX6_open rfl rfl
theorem dX6_open_120 : decode cX6_open 120 = .ok (.invokevirtual 173, 3) := k_182 zcX6_open rfl rfl rfl
theorem dX6_open_123 : decode cX6_open 123 = .ok (.aload_n 0, 1) := k_42 zcX6_open rfl rfl
theorem dX6_open_124 : decode cX6_open 124 = .ok (.iload_n 1, 1) := k_27 zcX6_open rfl rfl
theorem dX6_open_125 : decode cX6_open 125 = .ok (.iconst 1, 1) := k_4 zcX6_open rfl rfl
theorem dX6_open_126 : decode cX6_open 126 = .ok (.iload_n 2, 1) := k_28 zcX6_open rfl rfl
theorem dX6_open_127 : decode cX6_open 127 = .ok (.invokevirtual 173, 3) := k_182 zcX6_open rfl rfl rfl
theorem dX6_open_130 : decode cX6_open 130 = .ok (.aload_n 0, 1) := k_42 zcX6_open rfl rfl
theorem dX6_open_131 : decode cX6_open 131 = .ok (.iload_n 1, 1) := k_27 zcX6_open rfl rfl
theorem dX6_open_132 : decode cX6_open 132 = .ok (.iconst 2, 1) := k_5 zcX6_open rfl rfl
theorem dX6_open_133 : decode cX6_open 133 = .ok (.iload_n 3, 1) := k_29 zcX6_open rfl rfl
theorem dX6_open_134 : decode cX6_open 134 = .ok (.invokevirtual 173, 3) := k_182 zcX6_open rfl rfl rfl
theorem dX6_open_137 : decode cX6_open 137 = .ok (.aload_n 0, 1) := k_42 zcX6_open rfl rfl
theorem dX6_open_138 : decode cX6_open 138 = .ok (.iload_n 1, 1) := k_27 zcX6_open rfl rfl
theorem dX6_open_139 : decode cX6_open 139 = .ok (.iconst 3, 1) := k_6 zcX6_open rfl rfl
theorem dX6_open_140 : decode cX6_open 140 = .ok (.iload_n 3, 1) := k_29 zcX6_open rfl rfl
theorem dX6_open_141 : decode cX6_open 141 = .ok (.ifCond .ne 7, 3) := k_154 zcX6_open rfl rfl rfl
theorem dX6_open_144 : decode cX6_open 144 = .ok (.iconst 0, 1) := k_3 zcX6_open rfl rfl
theorem dX6_open_145 : decode cX6_open 145 = .ok (.goto 5, 3) := k_167 zcX6_open rfl rfl rfl
theorem dX6_open_148 : decode cX6_open 148 = .ok (.iload 4, 2) := k_21 zcX6_open rfl rfl rfl
theorem dX6_open_150 : decode cX6_open 150 = .ok (.invokevirtual 173, 3) := k_182 zcX6_open rfl rfl rfl
theorem dX6_open_153 : decode cX6_open 153 = .ok (.aload_n 0, 1) := k_42 zcX6_open rfl rfl
theorem dX6_open_154 : decode cX6_open 154 = .ok (.iload_n 1, 1) := k_27 zcX6_open rfl rfl
theorem dX6_open_155 : decode cX6_open 155 = .ok (.iconst 4, 1) := k_7 zcX6_open rfl rfl
theorem dX6_open_156 : decode cX6_open 156 = .ok (.iload 5, 2) := k_21 zcX6_open rfl rfl rfl
theorem dX6_open_158 : decode cX6_open 158 = .ok (.invokevirtual 173, 3) := k_182 zcX6_open rfl rfl rfl
theorem dX6_open_161 : decode cX6_open 161 = .ok (.aload_n 0, 1) := k_42 zcX6_open rfl rfl
theorem dX6_open_162 : decode cX6_open 162 = .ok (.iload_n 1, 1) := k_27 zcX6_open rfl rfl
theorem dX6_open_163 : decode cX6_open 163 = .ok (.bipush 6, 2) := k_16 zcX6_open rfl rfl rfl
theorem dX6_open_165 : decode cX6_open 165 = .ok (.iconst (-1), 1) := k_2 zcX6_open rfl rfl
theorem dX6_open_166 : decode cX6_open 166 = .ok (.invokevirtual 173, 3) := k_182 zcX6_open rfl rfl rfl
theorem dX6_open_169 : decode cX6_open 169 = .ok (.aload_n 0, 1) := k_42 zcX6_open rfl rfl
theorem dX6_open_170 : decode cX6_open 170 = .ok (.iload_n 1, 1) := k_27 zcX6_open rfl rfl
theorem dX6_open_171 : decode cX6_open 171 = .ok (.invokevirtual 176, 3) := k_182 zcX6_open rfl rfl rfl
theorem dX6_open_174 : decode cX6_open 174 = .ok (.aload_n 0, 1) := k_42 zcX6_open rfl rfl
theorem dX6_open_175 : decode cX6_open 175 = .ok (.iload_n 1, 1) := k_27 zcX6_open rfl rfl
theorem dX6_open_176 : decode cX6_open 176 = .ok (.invokevirtual 179, 3) := k_182 zcX6_open rfl rfl rfl
theorem dX6_open_179 : decode cX6_open 179 = .ok (.aload_n 0, 1) := k_42 zcX6_open rfl rfl
theorem dX6_open_180 : decode cX6_open 180 = .ok (.invokevirtual 182, 3) := k_182 zcX6_open rfl rfl rfl
theorem dX6_open_183 : decode cX6_open 183 = .ok (.ireturn, 1) := k_172 zcX6_open rfl rfl
theorem dX6_openLanes_0 : decode cX6_openLanes 0 = .ok (.iconst 0, 1) := k_3 zcX6_openLanes rfl rfl
theorem dX6_openLanes_1 : decode cX6_openLanes 1 = .ok (.istore_n 1, 1) := k_60 zcX6_openLanes rfl rfl
theorem dX6_openLanes_2 : decode cX6_openLanes 2 = .ok (.iconst 0, 1) := k_3 zcX6_openLanes rfl rfl
theorem dX6_openLanes_3 : decode cX6_openLanes 3 = .ok (.istore_n 2, 1) := k_61 zcX6_openLanes rfl rfl
theorem dX6_openLanes_4 : decode cX6_openLanes 4 = .ok (.iload_n 2, 1) := k_28 zcX6_openLanes rfl rfl
theorem dX6_openLanes_5 : decode cX6_openLanes 5 = .ok (.iconst 4, 1) := k_7 zcX6_openLanes rfl rfl
theorem dX6_openLanes_6 : decode cX6_openLanes 6 = .ok (.if_icmp .ge 18, 3) := k_162 zcX6_openLanes rfl rfl rfl
theorem dX6_openLanes_9 : decode cX6_openLanes 9 = .ok (.iload_n 1, 1) := k_27 zcX6_openLanes rfl rfl
theorem dX6_openLanes_10 : decode cX6_openLanes 10 = .ok (.aload_n 0, 1) := k_42 zcX6_openLanes rfl rfl
theorem dX6_openLanes_11 : decode cX6_openLanes 11 = .ok (.iload_n 2, 1) := k_28 zcX6_openLanes rfl rfl
theorem dX6_openLanes_12 : decode cX6_openLanes 12 = .ok (.iconst 0, 1) := k_3 zcX6_openLanes rfl rfl
theorem dX6_openLanes_13 : decode cX6_openLanes 13 = .ok (.invokevirtual 80, 3) := k_182 zcX6_openLanes rfl rfl rfl
theorem dX6_openLanes_16 : decode cX6_openLanes 16 = .ok (.iadd, 1) := k_96 zcX6_openLanes rfl rfl
theorem dX6_openLanes_17 : decode cX6_openLanes 17 = .ok (.istore_n 1, 1) := k_60 zcX6_openLanes rfl rfl
theorem dX6_openLanes_18 : decode cX6_openLanes 18 = .ok (.iinc 2 1, 3) := k_132 zcX6_openLanes rfl rfl rfl rfl
theorem dX6_openLanes_21 : decode cX6_openLanes 21 = .ok (.goto (-17), 3) := k_167 zcX6_openLanes rfl rfl rfl
theorem dX6_openLanes_24 : decode cX6_openLanes 24 = .ok (.iload_n 1, 1) := k_27 zcX6_openLanes rfl rfl
theorem dX6_openLanes_25 : decode cX6_openLanes 25 = .ok (.ireturn, 1) := k_172 zcX6_openLanes rfl rfl
theorem dX6_shut_0 : decode cX6_shut 0 = .ok (.aload_n 0, 1) := k_42 zcX6_shut rfl rfl
theorem dX6_shut_1 : decode cX6_shut 1 = .ok (.iload_n 1, 1) := k_27 zcX6_shut rfl rfl
theorem dX6_shut_2 : decode cX6_shut 2 = .ok (.invokevirtual 124, 3) := k_182 zcX6_shut rfl rfl rfl
theorem dX6_shut_5 : decode cX6_shut 5 = .ok (.ifCond .ne 5, 3) := k_154 zcX6_shut rfl rfl rfl
theorem dX6_shut_8 : decode cX6_shut 8 = .ok (.iconst 0, 1) := k_3 zcX6_shut rfl rfl
theorem dX6_shut_9 : decode cX6_shut 9 = .ok (.ireturn, 1) := k_172 zcX6_shut rfl rfl
theorem dX6_shut_10 : decode cX6_shut 10 = .ok (.aload_n 0, 1) := k_42 zcX6_shut rfl rfl
theorem dX6_shut_11 : decode cX6_shut 11 = .ok (.iload_n 1, 1) := k_27 zcX6_shut rfl rfl
theorem dX6_shut_12 : decode cX6_shut 12 = .ok (.iconst 0, 1) := k_3 zcX6_shut rfl rfl
theorem dX6_shut_13 : decode cX6_shut 13 = .ok (.iconst 0, 1) := k_3 zcX6_shut rfl rfl
theorem dX6_shut_14 : decode cX6_shut 14 = .ok (.invokevirtual 173, 3) := k_182 zcX6_shut rfl rfl rfl
theorem dX6_shut_17 : decode cX6_shut 17 = .ok (.aload_n 0, 1) := k_42 zcX6_shut rfl rfl
theorem dX6_shut_18 : decode cX6_shut 18 = .ok (.iload_n 1, 1) := k_27 zcX6_shut rfl rfl
theorem dX6_shut_19 : decode cX6_shut 19 = .ok (.invokevirtual 176, 3) := k_182 zcX6_shut rfl rfl rfl
theorem dX6_shut_22 : decode cX6_shut 22 = .ok (.aload_n 0, 1) := k_42 zcX6_shut rfl rfl
theorem dX6_shut_23 : decode cX6_shut 23 = .ok (.iload_n 1, 1) := k_27 zcX6_shut rfl rfl
theorem dX6_shut_24 : decode cX6_shut 24 = .ok (.invokevirtual 179, 3) := k_182 zcX6_shut rfl rfl rfl
theorem dX6_shut_27 : decode cX6_shut 27 = .ok (.iconst 1, 1) := k_4 zcX6_shut rfl rfl
theorem dX6_shut_28 : decode cX6_shut 28 = .ok (.ireturn, 1) := k_172 zcX6_shut rfl rfl
theorem dX6_endMove_0 : decode cX6_endMove 0 = .ok (.iload_n 2, 1) := k_28 zcX6_endMove rfl rfl
theorem dX6_endMove_1 : decode cX6_endMove 1 = .ok (.istore_n 3, 1) := k_62 zcX6_endMove rfl rfl
theorem dX6_endMove_2 : decode cX6_endMove 2 = .ok (.aload_n 0, 1) := k_42 zcX6_endMove rfl rfl
theorem dX6_endMove_3 : decode cX6_endMove 3 = .ok (.iload_n 1, 1) := k_27 zcX6_endMove rfl rfl
theorem dX6_endMove_4 : decode cX6_endMove 4 = .ok (.bipush 16, 2) := k_16 zcX6_endMove rfl rfl rfl
theorem dX6_endMove_6 : decode cX6_endMove 6 = .ok (.invokevirtual 80, 3) := k_182 zcX6_endMove rfl rfl rfl
theorem dX6_endMove_9 : decode cX6_endMove 9 = .ok (.ifCond .ne 80, 3) := k_154 zcX6_endMove rfl rfl rfl
theorem dX6_endMove_12 : decode cX6_endMove 12 = .ok (.aload_n 0, 1) := k_42 zcX6_endMove rfl rfl
theorem dX6_endMove_13 : decode cX6_endMove 13 = .ok (.iload_n 1, 1) := k_27 zcX6_endMove rfl rfl
theorem dX6_endMove_14 : decode cX6_endMove 14 = .ok (.bipush 14, 2) := k_16 zcX6_endMove rfl rfl rfl
theorem dX6_endMove_16 : decode cX6_endMove 16 = .ok (.invokevirtual 80, 3) := k_182 zcX6_endMove rfl rfl rfl
theorem dX6_endMove_19 : decode cX6_endMove 19 = .ok (.aload_n 0, 1) := k_42 zcX6_endMove rfl rfl
theorem dX6_endMove_20 : decode cX6_endMove 20 = .ok (.iload_n 1, 1) := k_27 zcX6_endMove rfl rfl
theorem dX6_endMove_21 : decode cX6_endMove 21 = .ok (.bipush 12, 2) := k_16 zcX6_endMove rfl rfl rfl
theorem dX6_endMove_23 : decode cX6_endMove 23 = .ok (.invokevirtual 80, 3) := k_182 zcX6_endMove rfl rfl rfl
theorem dX6_endMove_26 : decode cX6_endMove 26 = .ok (.if_icmp .le 63, 3) := k_164 zcX6_endMove rfl rfl rfl
theorem dX6_endMove_29 : decode cX6_endMove 29 = .ok (.aload_n 0, 1) := k_42 zcX6_endMove rfl rfl
theorem dX6_endMove_30 : decode cX6_endMove 30 = .ok (.iload_n 1, 1) := k_27 zcX6_endMove rfl rfl
theorem dX6_endMove_31 : decode cX6_endMove 31 = .ok (.bipush 16, 2) := k_16 zcX6_endMove rfl rfl rfl
theorem dX6_endMove_33 : decode cX6_endMove 33 = .ok (.iconst 1, 1) := k_4 zcX6_endMove rfl rfl
theorem dX6_endMove_34 : decode cX6_endMove 34 = .ok (.invokevirtual 173, 3) := k_182 zcX6_endMove rfl rfl rfl
theorem dX6_endMove_37 : decode cX6_endMove 37 = .ok (.aload_n 0, 1) := k_42 zcX6_endMove rfl rfl
theorem dX6_endMove_38 : decode cX6_endMove 38 = .ok (.iload_n 1, 1) := k_27 zcX6_endMove rfl rfl
theorem dX6_endMove_39 : decode cX6_endMove 39 = .ok (.bipush 17, 2) := k_16 zcX6_endMove rfl rfl rfl
theorem dX6_endMove_41 : decode cX6_endMove 41 = .ok (.iconst 1, 1) := k_4 zcX6_endMove rfl rfl
theorem dX6_endMove_42 : decode cX6_endMove 42 = .ok (.invokevirtual 173, 3) := k_182 zcX6_endMove rfl rfl rfl
theorem dX6_endMove_45 : decode cX6_endMove 45 = .ok (.aload_n 0, 1) := k_42 zcX6_endMove rfl rfl
theorem dX6_endMove_46 : decode cX6_endMove 46 = .ok (.iload_n 1, 1) := k_27 zcX6_endMove rfl rfl
theorem dX6_endMove_47 : decode cX6_endMove 47 = .ok (.bipush 13, 2) := k_16 zcX6_endMove rfl rfl rfl
theorem dX6_endMove_49 : decode cX6_endMove 49 = .ok (.aload_n 0, 1) := k_42 zcX6_endMove rfl rfl
theorem dX6_endMove_50 : decode cX6_endMove 50 = .ok (.iload_n 1, 1) := k_27 zcX6_endMove rfl rfl
theorem dX6_endMove_51 : decode cX6_endMove 51 = .ok (.bipush 14, 2) := k_16 zcX6_endMove rfl rfl rfl
theorem dX6_endMove_53 : decode cX6_endMove 53 = .ok (.invokevirtual 80, 3) := k_182 zcX6_endMove rfl rfl rfl
theorem dX6_endMove_56 : decode cX6_endMove 56 = .ok (.invokevirtual 173, 3) := k_182 zcX6_endMove rfl rfl rfl
theorem dX6_endMove_59 : decode cX6_endMove 59 = .ok (.aload_n 0, 1) := k_42 zcX6_endMove rfl rfl
theorem dX6_endMove_60 : decode cX6_endMove 60 = .ok (.iload_n 1, 1) := k_27 zcX6_endMove rfl rfl
theorem dX6_endMove_61 : decode cX6_endMove 61 = .ok (.bipush 14, 2) := k_16 zcX6_endMove rfl rfl rfl
theorem dX6_endMove_63 : decode cX6_endMove 63 = .ok (.iconst 0, 1) := k_3 zcX6_endMove rfl rfl
theorem dX6_endMove_64 : decode cX6_endMove 64 = .ok (.invokevirtual 173, 3) := k_182 zcX6_endMove rfl rfl rfl
theorem dX6_endMove_67 : decode cX6_endMove 67 = .ok (.aload_n 0, 1) := k_42 zcX6_endMove rfl rfl
theorem dX6_endMove_68 : decode cX6_endMove 68 = .ok (.iload_n 1, 1) := k_27 zcX6_endMove rfl rfl
theorem dX6_endMove_69 : decode cX6_endMove 69 = .ok (.bipush 15, 2) := k_16 zcX6_endMove rfl rfl rfl
theorem dX6_endMove_71 : decode cX6_endMove 71 = .ok (.aload_n 0, 1) := k_42 zcX6_endMove rfl rfl
theorem dX6_endMove_72 : decode cX6_endMove 72 = .ok (.iload_n 1, 1) := k_27 zcX6_endMove rfl rfl
theorem dX6_endMove_73 : decode cX6_endMove 73 = .ok (.bipush 13, 2) := k_16 zcX6_endMove rfl rfl rfl
theorem dX6_endMove_75 : decode cX6_endMove 75 = .ok (.invokevirtual 80, 3) := k_182 zcX6_endMove rfl rfl rfl
theorem dX6_endMove_78 : decode cX6_endMove 78 = .ok (.aload_n 0, 1) := k_42 zcX6_endMove rfl rfl
theorem dX6_endMove_79 : decode cX6_endMove 79 = .ok (.iload_n 1, 1) := k_27 zcX6_endMove rfl rfl
theorem dX6_endMove_80 : decode cX6_endMove 80 = .ok (.bipush 12, 2) := k_16 zcX6_endMove rfl rfl rfl
theorem dX6_endMove_82 : decode cX6_endMove 82 = .ok (.invokevirtual 80, 3) := k_182 zcX6_endMove rfl rfl rfl
theorem dX6_endMove_85 : decode cX6_endMove 85 = .ok (.iadd, 1) := k_96 zcX6_endMove rfl rfl
theorem dX6_endMove_86 : decode cX6_endMove 86 = .ok (.invokevirtual 173, 3) := k_182 zcX6_endMove rfl rfl rfl
theorem dX6_endMove_89 : decode cX6_endMove 89 = .ok (.aload_n 0, 1) := k_42 zcX6_endMove rfl rfl
theorem dX6_endMove_90 : decode cX6_endMove 90 = .ok (.iload_n 1, 1) := k_27 zcX6_endMove rfl rfl
theorem dX6_endMove_91 : decode cX6_endMove 91 = .ok (.bipush 16, 2) := k_16 zcX6_endMove rfl rfl rfl
theorem dX6_endMove_93 : decode cX6_endMove 93 = .ok (.invokevirtual 80, 3) := k_182 zcX6_endMove rfl rfl rfl
theorem dX6_endMove_96 : decode cX6_endMove 96 = .ok (.iconst 1, 1) := k_4 zcX6_endMove rfl rfl
theorem dX6_endMove_97 : decode cX6_endMove 97 = .ok (.if_icmp .ne 11, 3) := k_160 zcX6_endMove rfl rfl rfl
theorem dX6_endMove_100 : decode cX6_endMove 100 = .ok (.iload_n 3, 1) := k_29 zcX6_endMove rfl rfl
theorem dX6_endMove_101 : decode cX6_endMove 101 = .ok (.aload_n 0, 1) := k_42 zcX6_endMove rfl rfl
theorem dX6_endMove_102 : decode cX6_endMove 102 = .ok (.iload_n 1, 1) := k_27 zcX6_endMove rfl rfl
theorem dX6_endMove_103 : decode cX6_endMove 103 = .ok (.invokevirtual 185, 3) := k_182 zcX6_endMove rfl rfl rfl
theorem dX6_endMove_106 : decode cX6_endMove 106 = .ok (.iadd, 1) := k_96 zcX6_endMove rfl rfl
theorem dX6_endMove_107 : decode cX6_endMove 107 = .ok (.istore_n 3, 1) := k_62 zcX6_endMove rfl rfl
theorem dX6_endMove_108 : decode cX6_endMove 108 = .ok (.aload_n 0, 1) := k_42 zcX6_endMove rfl rfl
theorem dX6_endMove_109 : decode cX6_endMove 109 = .ok (.iload_n 1, 1) := k_27 zcX6_endMove rfl rfl
theorem dX6_endMove_110 : decode cX6_endMove 110 = .ok (.bipush 18, 2) := k_16 zcX6_endMove rfl rfl rfl
theorem dX6_endMove_112 : decode cX6_endMove 112 = .ok (.iload_n 3, 1) := k_29 zcX6_endMove rfl rfl
theorem dX6_endMove_113 : decode cX6_endMove 113 = .ok (.invokevirtual 173, 3) := k_182 zcX6_endMove rfl rfl rfl
theorem dX6_endMove_116 : decode cX6_endMove 116 = .ok (.aload_n 0, 1) := k_42 zcX6_endMove rfl rfl
theorem dX6_endMove_117 : decode cX6_endMove 117 = .ok (.iload_n 1, 1) := k_27 zcX6_endMove rfl rfl
theorem dX6_endMove_118 : decode cX6_endMove 118 = .ok (.bipush 19, 2) := k_16 zcX6_endMove rfl rfl rfl
theorem dX6_endMove_120 : decode cX6_endMove 120 = .ok (.iload_n 3, 1) := k_29 zcX6_endMove rfl rfl
theorem dX6_endMove_121 : decode cX6_endMove 121 = .ok (.invokevirtual 188, 3) := k_182 zcX6_endMove rfl rfl rfl
theorem dX6_endMove_124 : decode cX6_endMove 124 = .ok (.iload_n 3, 1) := k_29 zcX6_endMove rfl rfl
theorem dX6_endMove_125 : decode cX6_endMove 125 = .ok (.aload_n 0, 1) := k_42 zcX6_endMove rfl rfl
theorem dX6_endMove_126 : decode cX6_endMove 126 = .ok (.iload_n 1, 1) := k_27 zcX6_endMove rfl rfl
theorem dX6_endMove_127 : decode cX6_endMove 127 = .ok (.bipush 20, 2) := k_16 zcX6_endMove rfl rfl rfl
theorem dX6_endMove_129 : decode cX6_endMove 129 = .ok (.invokevirtual 80, 3) := k_182 zcX6_endMove rfl rfl rfl
theorem dX6_endMove_132 : decode cX6_endMove 132 = .ok (.if_icmp .le 11, 3) := k_164 zcX6_endMove rfl rfl rfl
theorem dX6_endMove_135 : decode cX6_endMove 135 = .ok (.aload_n 0, 1) := k_42 zcX6_endMove rfl rfl
theorem dX6_endMove_136 : decode cX6_endMove 136 = .ok (.iload_n 1, 1) := k_27 zcX6_endMove rfl rfl
theorem dX6_endMove_137 : decode cX6_endMove 137 = .ok (.bipush 20, 2) := k_16 zcX6_endMove rfl rfl rfl
theorem dX6_endMove_139 : decode cX6_endMove 139 = .ok (.iload_n 3, 1) := k_29 zcX6_endMove rfl rfl
theorem dX6_endMove_140 : decode cX6_endMove 140 = .ok (.invokevirtual 173, 3) := k_182 zcX6_endMove rfl rfl rfl
theorem dX6_endMove_143 : decode cX6_endMove 143 = .ok (.aload_n 0, 1) := k_42 zcX6_endMove rfl rfl
theorem dX6_endMove_144 : decode cX6_endMove 144 = .ok (.iload_n 1, 1) := k_27 zcX6_endMove rfl rfl
theorem dX6_endMove_145 : decode cX6_endMove 145 = .ok (.invokevirtual 191, 3) := k_182 zcX6_endMove rfl rfl rfl
theorem dX6_endMove_148 : decode cX6_endMove 148 = .ok (.return_, 1) := k_177 zcX6_endMove rfl rfl
theorem dX6_goFlip_0 : decode cX6_goFlip 0 = .ok (.aload_n 0, 1) := k_42 zcX6_goFlip rfl rfl
theorem dX6_goFlip_1 : decode cX6_goFlip 1 = .ok (.iload_n 1, 1) := k_27 zcX6_goFlip rfl rfl
theorem dX6_goFlip_2 : decode cX6_goFlip 2 = .ok (.bipush 15, 2) := k_16 zcX6_goFlip rfl rfl rfl
theorem dX6_goFlip_4 : decode cX6_goFlip 4 = .ok (.invokevirtual 80, 3) := k_182 zcX6_goFlip rfl rfl rfl
theorem dX6_goFlip_7 : decode cX6_goFlip 7 = .ok (.iconst 3, 1) := k_6 zcX6_goFlip rfl rfl
theorem dX6_goFlip_8 : decode cX6_goFlip 8 = .ok (.if_icmp .ge 13, 3) := k_162 zcX6_goFlip rfl rfl rfl
theorem dX6_goFlip_11 : decode cX6_goFlip 11 = .ok (.aload_n 0, 1) := k_42 zcX6_goFlip rfl rfl
theorem dX6_goFlip_12 : decode cX6_goFlip 12 = .ok (.iload_n 1, 1) := k_27 zcX6_goFlip rfl rfl
theorem dX6_goFlip_13 : decode cX6_goFlip 13 = .ok (.bipush 15, 2) := k_16 zcX6_goFlip rfl rfl rfl
theorem dX6_goFlip_15 : decode cX6_goFlip 15 = .ok (.invokevirtual 80, 3) := k_182 zcX6_goFlip rfl rfl rfl
theorem dX6_goFlip_18 : decode cX6_goFlip 18 = .ok (.goto 4, 3) := k_167 zcX6_goFlip rfl rfl rfl
theorem dX6_goFlip_21 : decode cX6_goFlip 21 = .ok (.iconst 3, 1) := k_6 zcX6_goFlip rfl rfl
theorem dX6_goFlip_22 : decode cX6_goFlip 22 = .ok (.istore_n 2, 1) := k_61 zcX6_goFlip rfl rfl
theorem dX6_goFlip_23 : decode cX6_goFlip 23 = .ok (.iload_n 2, 1) := k_28 zcX6_goFlip rfl rfl
theorem dX6_goFlip_24 : decode cX6_goFlip 24 = .ok (.ifCond .le 15, 3) := k_158 zcX6_goFlip rfl rfl rfl
theorem dX6_goFlip_27 : decode cX6_goFlip 27 = .ok (.iload_n 2, 1) := k_28 zcX6_goFlip rfl rfl
theorem dX6_goFlip_28 : decode cX6_goFlip 28 = .ok (.aload_n 0, 1) := k_42 zcX6_goFlip rfl rfl
theorem dX6_goFlip_29 : decode cX6_goFlip 29 = .ok (.iload_n 1, 1) := k_27 zcX6_goFlip rfl rfl
theorem dX6_goFlip_30 : decode cX6_goFlip 30 = .ok (.bipush 17, 2) := k_16 zcX6_goFlip rfl rfl rfl
theorem dX6_goFlip_32 : decode cX6_goFlip 32 = .ok (.invokevirtual 80, 3) := k_182 zcX6_goFlip rfl rfl rfl
theorem dX6_goFlip_35 : decode cX6_goFlip 35 = .ok (.isub, 1) := k_100 zcX6_goFlip rfl rfl
theorem dX6_goFlip_36 : decode cX6_goFlip 36 = .ok (.goto 4, 3) := k_167 zcX6_goFlip rfl rfl rfl
theorem dX6_goFlip_39 : decode cX6_goFlip 39 = .ok (.iconst 0, 1) := k_3 zcX6_goFlip rfl rfl
theorem dX6_goFlip_40 : decode cX6_goFlip 40 = .ok (.istore_n 3, 1) := k_62 zcX6_goFlip rfl rfl
theorem dX6_goFlip_41 : decode cX6_goFlip 41 = .ok (.iload_n 2, 1) := k_28 zcX6_goFlip rfl rfl
theorem dX6_goFlip_42 : decode cX6_goFlip 42 = .ok (.ifCond .le 11, 3) := k_158 zcX6_goFlip rfl rfl rfl
theorem dX6_goFlip_45 : decode cX6_goFlip 45 = .ok (.aload_n 0, 1) := k_42 zcX6_goFlip rfl rfl
theorem dX6_goFlip_46 : decode cX6_goFlip 46 = .ok (.iload_n 1, 1) := k_27 zcX6_goFlip rfl rfl
theorem dX6_goFlip_47 : decode cX6_goFlip 47 = .ok (.bipush 17, 2) := k_16 zcX6_goFlip rfl rfl rfl
theorem dX6_goFlip_49 : decode cX6_goFlip 49 = .ok (.iconst 0, 1) := k_3 zcX6_goFlip rfl rfl
theorem dX6_goFlip_50 : decode cX6_goFlip 50 = .ok (.invokevirtual 173, 3) := k_182 zcX6_goFlip rfl rfl rfl
theorem dX6_goFlip_53 : decode cX6_goFlip 53 = .ok (.aload_n 0, 1) := k_42 zcX6_goFlip rfl rfl
theorem dX6_goFlip_54 : decode cX6_goFlip 54 = .ok (.iload_n 1, 1) := k_27 zcX6_goFlip rfl rfl
theorem dX6_goFlip_55 : decode cX6_goFlip 55 = .ok (.bipush 15, 2) := k_16 zcX6_goFlip rfl rfl rfl
theorem dX6_goFlip_57 : decode cX6_goFlip 57 = .ok (.iload_n 2, 1) := k_28 zcX6_goFlip rfl rfl
theorem dX6_goFlip_58 : decode cX6_goFlip 58 = .ok (.ineg, 1) := k_116 zcX6_goFlip rfl rfl
theorem dX6_goFlip_59 : decode cX6_goFlip 59 = .ok (.invokevirtual 188, 3) := k_182 zcX6_goFlip rfl rfl rfl
theorem dX6_goFlip_62 : decode cX6_goFlip 62 = .ok (.aload_n 0, 1) := k_42 zcX6_goFlip rfl rfl
theorem dX6_goFlip_63 : decode cX6_goFlip 63 = .ok (.iload_n 1, 1) := k_27 zcX6_goFlip rfl rfl
theorem dX6_goFlip_64 : decode cX6_goFlip 64 = .ok (.bipush 15, 2) := k_16 zcX6_goFlip rfl rfl rfl
theorem dX6_goFlip_66 : decode cX6_goFlip 66 = .ok (.invokevirtual 80, 3) := k_182 zcX6_goFlip rfl rfl rfl
theorem dX6_goFlip_69 : decode cX6_goFlip 69 = .ok (.ifCond .le 5, 3) := k_158 zcX6_goFlip rfl rfl rfl
theorem dX6_goFlip_72 : decode cX6_goFlip 72 = .ok (.iload_n 3, 1) := k_29 zcX6_goFlip rfl rfl
theorem dX6_goFlip_73 : decode cX6_goFlip 73 = .ok (.ireturn, 1) := k_172 zcX6_goFlip rfl rfl
theorem dX6_goFlip_74 : decode cX6_goFlip 74 = .ok (.aload_n 0, 1) := k_42 zcX6_goFlip rfl rfl
theorem dX6_goFlip_75 : decode cX6_goFlip 75 = .ok (.iload_n 1, 1) := k_27 zcX6_goFlip rfl rfl
theorem dX6_goFlip_76 : decode cX6_goFlip 76 = .ok (.bipush 12, 2) := k_16 zcX6_goFlip rfl rfl rfl
theorem dX6_goFlip_78 : decode cX6_goFlip 78 = .ok (.aload_n 0, 1) := k_42 zcX6_goFlip rfl rfl
theorem dX6_goFlip_79 : decode cX6_goFlip 79 = .ok (.iload_n 1, 1) := k_27 zcX6_goFlip rfl rfl
theorem dX6_goFlip_80 : decode cX6_goFlip 80 = .ok (.bipush 13, 2) := k_16 zcX6_goFlip rfl rfl rfl
theorem dX6_goFlip_82 : decode cX6_goFlip 82 = .ok (.invokevirtual 80, 3) := k_182 zcX6_goFlip rfl rfl rfl
theorem dX6_goFlip_85 : decode cX6_goFlip 85 = .ok (.invokevirtual 188, 3) := k_182 zcX6_goFlip rfl rfl rfl
theorem dX6_goFlip_88 : decode cX6_goFlip 88 = .ok (.aload_n 0, 1) := k_42 zcX6_goFlip rfl rfl
theorem dX6_goFlip_89 : decode cX6_goFlip 89 = .ok (.iload_n 1, 1) := k_27 zcX6_goFlip rfl rfl
theorem dX6_goFlip_90 : decode cX6_goFlip 90 = .ok (.bipush 13, 2) := k_16 zcX6_goFlip rfl rfl rfl
theorem dX6_goFlip_92 : decode cX6_goFlip 92 = .ok (.iconst 0, 1) := k_3 zcX6_goFlip rfl rfl
theorem dX6_goFlip_93 : decode cX6_goFlip 93 = .ok (.invokevirtual 173, 3) := k_182 zcX6_goFlip rfl rfl rfl
theorem dX6_goFlip_96 : decode cX6_goFlip 96 = .ok (.aload_n 0, 1) := k_42 zcX6_goFlip rfl rfl
theorem dX6_goFlip_97 : decode cX6_goFlip 97 = .ok (.iload_n 1, 1) := k_27 zcX6_goFlip rfl rfl
theorem dX6_goFlip_98 : decode cX6_goFlip 98 = .ok (.bipush 16, 2) := k_16 zcX6_goFlip rfl rfl rfl
theorem dX6_goFlip_100 : decode cX6_goFlip 100 = .ok (.iconst 0, 1) := k_3 zcX6_goFlip rfl rfl
theorem dX6_goFlip_101 : decode cX6_goFlip 101 = .ok (.invokevirtual 173, 3) := k_182 zcX6_goFlip rfl rfl rfl
theorem dX6_goFlip_104 : decode cX6_goFlip 104 = .ok (.iload_n 3, 1) := k_29 zcX6_goFlip rfl rfl
theorem dX6_goFlip_105 : decode cX6_goFlip 105 = .ok (.ireturn, 1) := k_172 zcX6_goFlip rfl rfl
theorem dX6_layAnew_0 : decode cX6_layAnew 0 = .ok (.aload_n 0, 1) := k_42 zcX6_layAnew rfl rfl
theorem dX6_layAnew_1 : decode cX6_layAnew 1 = .ok (.iload_n 1, 1) := k_27 zcX6_layAnew rfl rfl
theorem dX6_layAnew_2 : decode cX6_layAnew 2 = .ok (.bipush 12, 2) := k_16 zcX6_layAnew rfl rfl rfl
theorem dX6_layAnew_4 : decode cX6_layAnew 4 = .ok (.aload_n 0, 1) := k_42 zcX6_layAnew rfl rfl
theorem dX6_layAnew_5 : decode cX6_layAnew 5 = .ok (.iload_n 1, 1) := k_27 zcX6_layAnew rfl rfl
theorem dX6_layAnew_6 : decode cX6_layAnew 6 = .ok (.invokevirtual 116, 3) := k_182 zcX6_layAnew rfl rfl rfl
theorem dX6_layAnew_9 : decode cX6_layAnew 9 = .ok (.invokevirtual 173, 3) := k_182 zcX6_layAnew rfl rfl rfl
theorem dX6_layAnew_12 : decode cX6_layAnew 12 = .ok (.aload_n 0, 1) := k_42 zcX6_layAnew rfl rfl
theorem dX6_layAnew_13 : decode cX6_layAnew 13 = .ok (.iload_n 1, 1) := k_27 zcX6_layAnew rfl rfl
theorem dX6_layAnew_14 : decode cX6_layAnew 14 = .ok (.bipush 13, 2) := k_16 zcX6_layAnew rfl rfl rfl
theorem dX6_layAnew_16 : decode cX6_layAnew 16 = .ok (.iconst 0, 1) := k_3 zcX6_layAnew rfl rfl
theorem dX6_layAnew_17 : decode cX6_layAnew 17 = .ok (.invokevirtual 173, 3) := k_182 zcX6_layAnew rfl rfl rfl
theorem dX6_layAnew_20 : decode cX6_layAnew 20 = .ok (.aload_n 0, 1) := k_42 zcX6_layAnew rfl rfl
theorem dX6_layAnew_21 : decode cX6_layAnew 21 = .ok (.iload_n 1, 1) := k_27 zcX6_layAnew rfl rfl
theorem dX6_layAnew_22 : decode cX6_layAnew 22 = .ok (.bipush 14, 2) := k_16 zcX6_layAnew rfl rfl rfl
theorem dX6_layAnew_24 : decode cX6_layAnew 24 = .ok (.iconst 0, 1) := k_3 zcX6_layAnew rfl rfl
theorem dX6_layAnew_25 : decode cX6_layAnew 25 = .ok (.invokevirtual 173, 3) := k_182 zcX6_layAnew rfl rfl rfl
theorem dX6_layAnew_28 : decode cX6_layAnew 28 = .ok (.aload_n 0, 1) := k_42 zcX6_layAnew rfl rfl
theorem dX6_layAnew_29 : decode cX6_layAnew 29 = .ok (.iload_n 1, 1) := k_27 zcX6_layAnew rfl rfl
theorem dX6_layAnew_30 : decode cX6_layAnew 30 = .ok (.bipush 15, 2) := k_16 zcX6_layAnew rfl rfl rfl
theorem dX6_layAnew_32 : decode cX6_layAnew 32 = .ok (.iconst 0, 1) := k_3 zcX6_layAnew rfl rfl
theorem dX6_layAnew_33 : decode cX6_layAnew 33 = .ok (.invokevirtual 173, 3) := k_182 zcX6_layAnew rfl rfl rfl
theorem dX6_layAnew_36 : decode cX6_layAnew 36 = .ok (.aload_n 0, 1) := k_42 zcX6_layAnew rfl rfl
theorem dX6_layAnew_37 : decode cX6_layAnew 37 = .ok (.iload_n 1, 1) := k_27 zcX6_layAnew rfl rfl
theorem dX6_layAnew_38 : decode cX6_layAnew 38 = .ok (.bipush 16, 2) := k_16 zcX6_layAnew rfl rfl rfl
theorem dX6_layAnew_40 : decode cX6_layAnew 40 = .ok (.iconst 0, 1) := k_3 zcX6_layAnew rfl rfl
theorem dX6_layAnew_41 : decode cX6_layAnew 41 = .ok (.invokevirtual 173, 3) := k_182 zcX6_layAnew rfl rfl rfl
theorem dX6_layAnew_44 : decode cX6_layAnew 44 = .ok (.aload_n 0, 1) := k_42 zcX6_layAnew rfl rfl
theorem dX6_layAnew_45 : decode cX6_layAnew 45 = .ok (.iload_n 1, 1) := k_27 zcX6_layAnew rfl rfl
theorem dX6_layAnew_46 : decode cX6_layAnew 46 = .ok (.invokevirtual 116, 3) := k_182 zcX6_layAnew rfl rfl rfl
theorem dX6_layAnew_49 : decode cX6_layAnew 49 = .ok (.ifCond .le 13, 3) := k_158 zcX6_layAnew rfl rfl rfl
theorem dX6_layAnew_52 : decode cX6_layAnew 52 = .ok (.aload_n 0, 1) := k_42 zcX6_layAnew rfl rfl
theorem dX6_layAnew_53 : decode cX6_layAnew 53 = .ok (.iload_n 1, 1) := k_27 zcX6_layAnew rfl rfl
theorem dX6_layAnew_54 : decode cX6_layAnew 54 = .ok (.invokevirtual 116, 3) := k_182 zcX6_layAnew rfl rfl rfl
theorem dX6_layAnew_57 : decode cX6_layAnew 57 = .ok (.iconst 1, 1) := k_4 zcX6_layAnew rfl rfl
theorem dX6_layAnew_58 : decode cX6_layAnew 58 = .ok (.isub, 1) := k_100 zcX6_layAnew rfl rfl
theorem dX6_layAnew_59 : decode cX6_layAnew 59 = .ok (.goto 4, 3) := k_167 zcX6_layAnew rfl rfl rfl
theorem dX6_layAnew_62 : decode cX6_layAnew 62 = .ok (.iconst 0, 1) := k_3 zcX6_layAnew rfl rfl
theorem dX6_layAnew_63 : decode cX6_layAnew 63 = .ok (.istore_n 2, 1) := k_61 zcX6_layAnew rfl rfl
theorem dX6_layAnew_64 : decode cX6_layAnew 64 = .ok (.aload_n 0, 1) := k_42 zcX6_layAnew rfl rfl
theorem dX6_layAnew_65 : decode cX6_layAnew 65 = .ok (.iload_n 1, 1) := k_27 zcX6_layAnew rfl rfl
theorem dX6_layAnew_66 : decode cX6_layAnew 66 = .ok (.bipush 18, 2) := k_16 zcX6_layAnew rfl rfl rfl
theorem dX6_layAnew_68 : decode cX6_layAnew 68 = .ok (.iload_n 2, 1) := k_28 zcX6_layAnew rfl rfl
theorem dX6_layAnew_69 : decode cX6_layAnew 69 = .ok (.invokevirtual 173, 3) := k_182 zcX6_layAnew rfl rfl rfl
theorem dX6_layAnew_72 : decode cX6_layAnew 72 = .ok (.aload_n 0, 1) := k_42 zcX6_layAnew rfl rfl
theorem dX6_layAnew_73 : decode cX6_layAnew 73 = .ok (.iload_n 1, 1) := k_27 zcX6_layAnew rfl rfl
theorem dX6_layAnew_74 : decode cX6_layAnew 74 = .ok (.bipush 19, 2) := k_16 zcX6_layAnew rfl rfl rfl
theorem dX6_layAnew_76 : decode cX6_layAnew 76 = .ok (.iload_n 2, 1) := k_28 zcX6_layAnew rfl rfl
theorem dX6_layAnew_77 : decode cX6_layAnew 77 = .ok (.invokevirtual 188, 3) := k_182 zcX6_layAnew rfl rfl rfl
theorem dX6_layAnew_80 : decode cX6_layAnew 80 = .ok (.aload_n 0, 1) := k_42 zcX6_layAnew rfl rfl
theorem dX6_layAnew_81 : decode cX6_layAnew 81 = .ok (.iload_n 1, 1) := k_27 zcX6_layAnew rfl rfl
theorem dX6_layAnew_82 : decode cX6_layAnew 82 = .ok (.invokevirtual 191, 3) := k_182 zcX6_layAnew rfl rfl rfl
theorem dX6_layAnew_85 : decode cX6_layAnew 85 = .ok (.return_, 1) := k_177 zcX6_layAnew rfl rfl
theorem dX6_state_0 : decode cX6_state 0 = .ok (.aload_n 0, 1) := k_42 zcX6_state rfl rfl
theorem dX6_state_1 : decode cX6_state 1 = .ok (.iload_n 1, 1) := k_27 zcX6_state rfl rfl
theorem dX6_state_2 : decode cX6_state 2 = .ok (.invokevirtual 124, 3) := k_182 zcX6_state rfl rfl rfl
theorem dX6_state_5 : decode cX6_state 5 = .ok (.ifCond .ne 5, 3) := k_154 zcX6_state rfl rfl rfl
theorem dX6_state_8 : decode cX6_state 8 = .ok (.iconst (-1), 1) := k_2 zcX6_state rfl rfl
theorem dX6_state_9 : decode cX6_state 9 = .ok (.ireturn, 1) := k_172 zcX6_state rfl rfl
theorem dX6_state_10 : decode cX6_state 10 = .ok (.iload_n 2, 1) := k_28 zcX6_state rfl rfl
theorem dX6_state_11 : decode cX6_state 11 = .ok (.tableswitch 97 0 6 #[41, 49, 57, 65, 73, 81, 89], 41) := by decide +kernel
theorem dX6_state_52 : decode cX6_state 52 = .ok (.aload_n 0, 1) := k_42 zcX6_state rfl rfl
theorem dX6_state_53 : decode cX6_state 53 = .ok (.iload_n 1, 1) := k_27 zcX6_state rfl rfl
theorem dX6_state_54 : decode cX6_state 54 = .ok (.bipush 12, 2) := k_16 zcX6_state rfl rfl rfl
theorem dX6_state_56 : decode cX6_state 56 = .ok (.invokevirtual 80, 3) := k_182 zcX6_state rfl rfl rfl
theorem dX6_state_59 : decode cX6_state 59 = .ok (.ireturn, 1) := k_172 zcX6_state rfl rfl
theorem dX6_state_60 : decode cX6_state 60 = .ok (.aload_n 0, 1) := k_42 zcX6_state rfl rfl
theorem dX6_state_61 : decode cX6_state 61 = .ok (.iload_n 1, 1) := k_27 zcX6_state rfl rfl
theorem dX6_state_62 : decode cX6_state 62 = .ok (.bipush 13, 2) := k_16 zcX6_state rfl rfl rfl
theorem dX6_state_64 : decode cX6_state 64 = .ok (.invokevirtual 80, 3) := k_182 zcX6_state rfl rfl rfl
theorem dX6_state_67 : decode cX6_state 67 = .ok (.ireturn, 1) := k_172 zcX6_state rfl rfl
theorem dX6_state_68 : decode cX6_state 68 = .ok (.aload_n 0, 1) := k_42 zcX6_state rfl rfl
theorem dX6_state_69 : decode cX6_state 69 = .ok (.iload_n 1, 1) := k_27 zcX6_state rfl rfl
theorem dX6_state_70 : decode cX6_state 70 = .ok (.bipush 14, 2) := k_16 zcX6_state rfl rfl rfl
theorem dX6_state_72 : decode cX6_state 72 = .ok (.invokevirtual 80, 3) := k_182 zcX6_state rfl rfl rfl
theorem dX6_state_75 : decode cX6_state 75 = .ok (.ireturn, 1) := k_172 zcX6_state rfl rfl
theorem dX6_state_76 : decode cX6_state 76 = .ok (.aload_n 0, 1) := k_42 zcX6_state rfl rfl
theorem dX6_state_77 : decode cX6_state 77 = .ok (.iload_n 1, 1) := k_27 zcX6_state rfl rfl
theorem dX6_state_78 : decode cX6_state 78 = .ok (.bipush 15, 2) := k_16 zcX6_state rfl rfl rfl
theorem dX6_state_80 : decode cX6_state 80 = .ok (.invokevirtual 80, 3) := k_182 zcX6_state rfl rfl rfl
theorem dX6_state_83 : decode cX6_state 83 = .ok (.ireturn, 1) := k_172 zcX6_state rfl rfl
theorem dX6_state_84 : decode cX6_state 84 = .ok (.aload_n 0, 1) := k_42 zcX6_state rfl rfl
theorem dX6_state_85 : decode cX6_state 85 = .ok (.iload_n 1, 1) := k_27 zcX6_state rfl rfl
theorem dX6_state_86 : decode cX6_state 86 = .ok (.bipush 18, 2) := k_16 zcX6_state rfl rfl rfl
theorem dX6_state_88 : decode cX6_state 88 = .ok (.invokevirtual 80, 3) := k_182 zcX6_state rfl rfl rfl
theorem dX6_state_91 : decode cX6_state 91 = .ok (.ireturn, 1) := k_172 zcX6_state rfl rfl
theorem dX6_state_92 : decode cX6_state 92 = .ok (.aload_n 0, 1) := k_42 zcX6_state rfl rfl
theorem dX6_state_93 : decode cX6_state 93 = .ok (.iload_n 1, 1) := k_27 zcX6_state rfl rfl
theorem dX6_state_94 : decode cX6_state 94 = .ok (.bipush 19, 2) := k_16 zcX6_state rfl rfl rfl
theorem dX6_state_96 : decode cX6_state 96 = .ok (.invokevirtual 80, 3) := k_182 zcX6_state rfl rfl rfl
theorem dX6_state_99 : decode cX6_state 99 = .ok (.ireturn, 1) := k_172 zcX6_state rfl rfl
theorem dX6_state_100 : decode cX6_state 100 = .ok (.aload_n 0, 1) := k_42 zcX6_state rfl rfl
theorem dX6_state_101 : decode cX6_state 101 = .ok (.iload_n 1, 1) := k_27 zcX6_state rfl rfl
theorem dX6_state_102 : decode cX6_state 102 = .ok (.bipush 20, 2) := k_16 zcX6_state rfl rfl rfl
theorem dX6_state_104 : decode cX6_state 104 = .ok (.invokevirtual 80, 3) := k_182 zcX6_state rfl rfl rfl
theorem dX6_state_107 : decode cX6_state 107 = .ok (.ireturn, 1) := k_172 zcX6_state rfl rfl
theorem dX6_state_108 : decode cX6_state 108 = .ok (.iconst (-1), 1) := k_2 zcX6_state rfl rfl
theorem dX6_state_109 : decode cX6_state 109 = .ok (.ireturn, 1) := k_172 zcX6_state rfl rfl
theorem dX6_soon_0 : decode cX6_soon 0 = .ok (.aload_n 0, 1) := k_42 zcX6_soon rfl rfl
theorem dX6_soon_1 : decode cX6_soon 1 = .ok (.iload_n 1, 1) := k_27 zcX6_soon rfl rfl
theorem dX6_soon_2 : decode cX6_soon 2 = .ok (.invokevirtual 124, 3) := k_182 zcX6_soon rfl rfl rfl
theorem dX6_soon_5 : decode cX6_soon 5 = .ok (.ifCond .eq 23, 3) := k_153 zcX6_soon rfl rfl rfl
theorem dX6_soon_8 : decode cX6_soon 8 = .ok (.iload_n 2, 1) := k_28 zcX6_soon rfl rfl
theorem dX6_soon_9 : decode cX6_soon 9 = .ok (.iconst 0, 1) := k_3 zcX6_soon rfl rfl
theorem dX6_soon_10 : decode cX6_soon 10 = .ok (.iconst 1, 1) := k_4 zcX6_soon rfl rfl
theorem dX6_soon_11 : decode cX6_soon 11 = .ok (.invokestatic 76, 3) := k_184 zcX6_soon rfl rfl rfl
theorem dX6_soon_14 : decode cX6_soon 14 = .ok (.ifCond .eq 14, 3) := k_153 zcX6_soon rfl rfl rfl
theorem dX6_soon_17 : decode cX6_soon 17 = .ok (.iload_n 2, 1) := k_28 zcX6_soon rfl rfl
theorem dX6_soon_18 : decode cX6_soon 18 = .ok (.aload_n 0, 1) := k_42 zcX6_soon rfl rfl
theorem dX6_soon_19 : decode cX6_soon 19 = .ok (.iload_n 1, 1) := k_27 zcX6_soon rfl rfl
theorem dX6_soon_20 : decode cX6_soon 20 = .ok (.bipush 16, 2) := k_16 zcX6_soon rfl rfl rfl
theorem dX6_soon_22 : decode cX6_soon 22 = .ok (.invokevirtual 80, 3) := k_182 zcX6_soon rfl rfl rfl
theorem dX6_soon_25 : decode cX6_soon 25 = .ok (.if_icmp .eq 5, 3) := k_159 zcX6_soon rfl rfl rfl
theorem dX6_soon_28 : decode cX6_soon 28 = .ok (.iconst (-1), 1) := k_2 zcX6_soon rfl rfl
theorem dX6_soon_29 : decode cX6_soon 29 = .ok (.ireturn, 1) := k_172 zcX6_soon rfl rfl
theorem dX6_soon_30 : decode cX6_soon 30 = .ok (.iload_n 2, 1) := k_28 zcX6_soon rfl rfl
theorem dX6_soon_31 : decode cX6_soon 31 = .ok (.ifCond .ne 23, 3) := k_154 zcX6_soon rfl rfl rfl
theorem dX6_soon_34 : decode cX6_soon 34 = .ok (.aload_n 0, 1) := k_42 zcX6_soon rfl rfl
theorem dX6_soon_35 : decode cX6_soon 35 = .ok (.iload_n 1, 1) := k_27 zcX6_soon rfl rfl
theorem dX6_soon_36 : decode cX6_soon 36 = .ok (.bipush 12, 2) := k_16 zcX6_soon rfl rfl rfl
theorem dX6_soon_38 : decode cX6_soon 38 = .ok (.invokevirtual 80, 3) := k_182 zcX6_soon rfl rfl rfl
theorem dX6_soon_41 : decode cX6_soon 41 = .ok (.aload_n 0, 1) := k_42 zcX6_soon rfl rfl
theorem dX6_soon_42 : decode cX6_soon 42 = .ok (.iload_n 1, 1) := k_27 zcX6_soon rfl rfl
theorem dX6_soon_43 : decode cX6_soon 43 = .ok (.bipush 14, 2) := k_16 zcX6_soon rfl rfl rfl
theorem dX6_soon_45 : decode cX6_soon 45 = .ok (.invokevirtual 80, 3) := k_182 zcX6_soon rfl rfl rfl
theorem dX6_soon_48 : decode cX6_soon 48 = .ok (.isub, 1) := k_100 zcX6_soon rfl rfl
theorem dX6_soon_49 : decode cX6_soon 49 = .ok (.iconst 1, 1) := k_4 zcX6_soon rfl rfl
theorem dX6_soon_50 : decode cX6_soon 50 = .ok (.iadd, 1) := k_96 zcX6_soon rfl rfl
theorem dX6_soon_51 : decode cX6_soon 51 = .ok (.goto 16, 3) := k_167 zcX6_soon rfl rfl rfl
theorem dX6_soon_54 : decode cX6_soon 54 = .ok (.aload_n 0, 1) := k_42 zcX6_soon rfl rfl
theorem dX6_soon_55 : decode cX6_soon 55 = .ok (.iload_n 1, 1) := k_27 zcX6_soon rfl rfl
theorem dX6_soon_56 : decode cX6_soon 56 = .ok (.bipush 15, 2) := k_16 zcX6_soon rfl rfl rfl
theorem dX6_soon_58 : decode cX6_soon 58 = .ok (.invokevirtual 80, 3) := k_182 zcX6_soon rfl rfl rfl
theorem dX6_soon_61 : decode cX6_soon 61 = .ok (.iconst 3, 1) := k_6 zcX6_soon rfl rfl
theorem dX6_soon_62 : decode cX6_soon 62 = .ok (.iadd, 1) := k_96 zcX6_soon rfl rfl
theorem dX6_soon_63 : decode cX6_soon 63 = .ok (.iconst 1, 1) := k_4 zcX6_soon rfl rfl
theorem dX6_soon_64 : decode cX6_soon 64 = .ok (.isub, 1) := k_100 zcX6_soon rfl rfl
theorem dX6_soon_65 : decode cX6_soon 65 = .ok (.iconst 3, 1) := k_6 zcX6_soon rfl rfl
theorem dX6_soon_66 : decode cX6_soon 66 = .ok (.idiv, 1) := k_108 zcX6_soon rfl rfl
theorem dX6_soon_67 : decode cX6_soon 67 = .ok (.ireturn, 1) := k_172 zcX6_soon rfl rfl
theorem dX6_endWatches_0 : decode cX6_endWatches 0 = .ok (.iconst 0, 1) := k_3 zcX6_endWatches rfl rfl
theorem dX6_endWatches_1 : decode cX6_endWatches 1 = .ok (.istore_n 2, 1) := k_61 zcX6_endWatches rfl rfl
theorem dX6_endWatches_2 : decode cX6_endWatches 2 = .ok (.iload_n 2, 1) := k_28 zcX6_endWatches rfl rfl
theorem dX6_endWatches_3 : decode cX6_endWatches 3 = .ok (.bipush 8, 2) := k_16 zcX6_endWatches rfl rfl rfl
theorem dX6_endWatches_5 : decode cX6_endWatches 5 = .ok (.if_icmp .ge 26, 3) := k_162 zcX6_endWatches rfl rfl rfl
theorem dX6_endWatches_8 : decode cX6_endWatches 8 = .ok (.aload_n 0, 1) := k_42 zcX6_endWatches rfl rfl
theorem dX6_endWatches_9 : decode cX6_endWatches 9 = .ok (.getfield 34, 3) := k_180 zcX6_endWatches rfl rfl rfl
theorem dX6_endWatches_12 : decode cX6_endWatches 12 = .ok (.iload_n 2, 1) := k_28 zcX6_endWatches rfl rfl
theorem dX6_endWatches_13 : decode cX6_endWatches 13 = .ok (.iaload, 1) := k_46 zcX6_endWatches rfl rfl
theorem dX6_endWatches_14 : decode cX6_endWatches 14 = .ok (.iload_n 1, 1) := k_27 zcX6_endWatches rfl rfl
theorem dX6_endWatches_15 : decode cX6_endWatches 15 = .ok (.if_icmp .ne 10, 3) := k_160 zcX6_endWatches rfl rfl rfl
theorem dX6_endWatches_18 : decode cX6_endWatches 18 = .ok (.aload_n 0, 1) := k_42 zcX6_endWatches rfl rfl
theorem dX6_endWatches_19 : decode cX6_endWatches 19 = .ok (.getfield 34, 3) := k_180 zcX6_endWatches rfl rfl rfl
theorem dX6_endWatches_22 : decode cX6_endWatches 22 = .ok (.iload_n 2, 1) := k_28 zcX6_endWatches rfl rfl
theorem dX6_endWatches_23 : decode cX6_endWatches 23 = .ok (.iconst (-1), 1) := k_2 zcX6_endWatches rfl rfl
theorem dX6_endWatches_24 : decode cX6_endWatches 24 = .ok (.iastore, 1) := k_79 zcX6_endWatches rfl rfl
theorem dX6_endWatches_25 : decode cX6_endWatches 25 = .ok (.iinc 2 1, 3) := k_132 zcX6_endWatches rfl rfl rfl rfl
theorem dX6_endWatches_28 : decode cX6_endWatches 28 = .ok (.goto (-26), 3) := k_167 zcX6_endWatches rfl rfl rfl
theorem dX6_endWatches_31 : decode cX6_endWatches 31 = .ok (.return_, 1) := k_177 zcX6_endWatches rfl rfl
theorem dX6_isTold_0 : decode cX6_isTold 0 = .ok (.iload_n 1, 1) := k_27 zcX6_isTold rfl rfl
theorem dX6_isTold_1 : decode cX6_isTold 1 = .ok (.iconst 0, 1) := k_3 zcX6_isTold rfl rfl
theorem dX6_isTold_2 : decode cX6_isTold 2 = .ok (.bipush 7, 2) := k_16 zcX6_isTold rfl rfl rfl
theorem dX6_isTold_4 : decode cX6_isTold 4 = .ok (.invokestatic 76, 3) := k_184 zcX6_isTold rfl rfl rfl
theorem dX6_isTold_7 : decode cX6_isTold 7 = .ok (.ifCond .eq 16, 3) := k_153 zcX6_isTold rfl rfl rfl
theorem dX6_isTold_10 : decode cX6_isTold 10 = .ok (.aload_n 0, 1) := k_42 zcX6_isTold rfl rfl
theorem dX6_isTold_11 : decode cX6_isTold 11 = .ok (.getfield 34, 3) := k_180 zcX6_isTold rfl rfl rfl
theorem dX6_isTold_14 : decode cX6_isTold 14 = .ok (.iload_n 1, 1) := k_27 zcX6_isTold rfl rfl
theorem dX6_isTold_15 : decode cX6_isTold 15 = .ok (.iaload, 1) := k_46 zcX6_isTold rfl rfl
theorem dX6_isTold_16 : decode cX6_isTold 16 = .ok (.ifCond .lt 7, 3) := k_155 zcX6_isTold rfl rfl rfl
theorem dX6_isTold_19 : decode cX6_isTold 19 = .ok (.iconst 1, 1) := k_4 zcX6_isTold rfl rfl
theorem dX6_isTold_20 : decode cX6_isTold 20 = .ok (.goto 4, 3) := k_167 zcX6_isTold rfl rfl rfl
theorem dX6_isTold_23 : decode cX6_isTold 23 = .ok (.iconst 0, 1) := k_3 zcX6_isTold rfl rfl
theorem dX6_isTold_24 : decode cX6_isTold 24 = .ok (.ireturn, 1) := k_172 zcX6_isTold rfl rfl
theorem dX6_reachedNow_0 : decode cX6_reachedNow 0 = .ok (.aload_n 0, 1) := k_42 zcX6_reachedNow rfl rfl
theorem dX6_reachedNow_1 : decode cX6_reachedNow 1 = .ok (.iload_n 1, 1) := k_27 zcX6_reachedNow rfl rfl
theorem dX6_reachedNow_2 : decode cX6_reachedNow 2 = .ok (.invokevirtual 194, 3) := k_182 zcX6_reachedNow rfl rfl rfl
theorem dX6_reachedNow_5 : decode cX6_reachedNow 5 = .ok (.aload_n 0, 1) := k_42 zcX6_reachedNow rfl rfl
theorem dX6_reachedNow_6 : decode cX6_reachedNow 6 = .ok (.aload_n 0, 1) := k_42 zcX6_reachedNow rfl rfl
theorem dX6_reachedNow_7 : decode cX6_reachedNow 7 = .ok (.iload_n 1, 1) := k_27 zcX6_reachedNow rfl rfl
theorem dX6_reachedNow_8 : decode cX6_reachedNow 8 = .ok (.iconst 1, 1) := k_4 zcX6_reachedNow rfl rfl
theorem dX6_reachedNow_9 : decode cX6_reachedNow 9 = .ok (.invokevirtual 80, 3) := k_182 zcX6_reachedNow rfl rfl rfl
theorem dX6_reachedNow_12 : decode cX6_reachedNow 12 = .ok (.iload_n 2, 1) := k_28 zcX6_reachedNow rfl rfl
theorem dX6_reachedNow_13 : decode cX6_reachedNow 13 = .ok (.invokevirtual 197, 3) := k_182 zcX6_reachedNow rfl rfl rfl
theorem dX6_reachedNow_16 : decode cX6_reachedNow 16 = .ok (.iload_n 3, 1) := k_29 zcX6_reachedNow rfl rfl
theorem dX6_reachedNow_17 : decode cX6_reachedNow 17 = .ok (.invokestatic 200, 3) := k_184 zcX6_reachedNow rfl rfl rfl
theorem dX6_reachedNow_20 : decode cX6_reachedNow 20 = .ok (.ifCond .eq 7, 3) := k_153 zcX6_reachedNow rfl rfl rfl
theorem dX6_reachedNow_23 : decode cX6_reachedNow 23 = .ok (.iconst 1, 1) := k_4 zcX6_reachedNow rfl rfl
theorem dX6_reachedNow_24 : decode cX6_reachedNow 24 = .ok (.goto 4, 3) := k_167 zcX6_reachedNow rfl rfl rfl
theorem dX6_reachedNow_27 : decode cX6_reachedNow 27 = .ok (.iconst 0, 1) := k_3 zcX6_reachedNow rfl rfl
theorem dX6_reachedNow_28 : decode cX6_reachedNow 28 = .ok (.ireturn, 1) := k_172 zcX6_reachedNow rfl rfl
theorem dX6_look_0 : decode cX6_look 0 = .ok (.iconst 0, 1) := k_3 zcX6_look rfl rfl
theorem dX6_look_1 : decode cX6_look 1 = .ok (.istore_n 2, 1) := k_61 zcX6_look rfl rfl
theorem dX6_look_2 : decode cX6_look 2 = .ok (.iload_n 2, 1) := k_28 zcX6_look rfl rfl
theorem dX6_look_3 : decode cX6_look 3 = .ok (.bipush 8, 2) := k_16 zcX6_look rfl rfl rfl
theorem dX6_look_5 : decode cX6_look 5 = .ok (.if_icmp .ge 80, 3) := k_162 zcX6_look rfl rfl rfl
theorem dX6_look_8 : decode cX6_look 8 = .ok (.aload_n 0, 1) := k_42 zcX6_look rfl rfl
theorem dX6_look_9 : decode cX6_look 9 = .ok (.getfield 34, 3) := k_180 zcX6_look rfl rfl rfl
theorem dX6_look_12 : decode cX6_look 12 = .ok (.iload_n 2, 1) := k_28 zcX6_look rfl rfl
theorem dX6_look_13 : decode cX6_look 13 = .ok (.iaload, 1) := k_46 zcX6_look rfl rfl
theorem dX6_look_14 : decode cX6_look 14 = .ok (.iload_n 1, 1) := k_27 zcX6_look rfl rfl
theorem dX6_look_15 : decode cX6_look 15 = .ok (.if_icmp .eq 6, 3) := k_159 zcX6_look rfl rfl rfl
theorem dX6_look_18 : decode cX6_look 18 = .ok (.goto 61, 3) := k_167 zcX6_look rfl rfl rfl
theorem dX6_look_21 : decode cX6_look 21 = .ok (.aload_n 0, 1) := k_42 zcX6_look rfl rfl
theorem dX6_look_22 : decode cX6_look 22 = .ok (.iload_n 1, 1) := k_27 zcX6_look rfl rfl
theorem dX6_look_23 : decode cX6_look 23 = .ok (.aload_n 0, 1) := k_42 zcX6_look rfl rfl
theorem dX6_look_24 : decode cX6_look 24 = .ok (.getfield 37, 3) := k_180 zcX6_look rfl rfl rfl
theorem dX6_look_27 : decode cX6_look 27 = .ok (.iload_n 2, 1) := k_28 zcX6_look rfl rfl
theorem dX6_look_28 : decode cX6_look 28 = .ok (.iaload, 1) := k_46 zcX6_look rfl rfl
theorem dX6_look_29 : decode cX6_look 29 = .ok (.aload_n 0, 1) := k_42 zcX6_look rfl rfl
theorem dX6_look_30 : decode cX6_look 30 = .ok (.getfield 40, 3) := k_180 zcX6_look rfl rfl rfl
theorem dX6_look_33 : decode cX6_look 33 = .ok (.iload_n 2, 1) := k_28 zcX6_look rfl rfl
theorem dX6_look_34 : decode cX6_look 34 = .ok (.iaload, 1) := k_46 zcX6_look rfl rfl
theorem dX6_look_35 : decode cX6_look 35 = .ok (.invokevirtual 203, 3) := k_182 zcX6_look rfl rfl rfl
theorem dX6_look_38 : decode cX6_look 38 = .ok (.istore_n 3, 1) := k_62 zcX6_look rfl rfl
theorem dX6_look_39 : decode cX6_look 39 = .ok (.iload_n 3, 1) := k_29 zcX6_look rfl rfl
theorem dX6_look_40 : decode cX6_look 40 = .ok (.aload_n 0, 1) := k_42 zcX6_look rfl rfl
theorem dX6_look_41 : decode cX6_look 41 = .ok (.getfield 43, 3) := k_180 zcX6_look rfl rfl rfl
theorem dX6_look_44 : decode cX6_look 44 = .ok (.iload_n 2, 1) := k_28 zcX6_look rfl rfl
theorem dX6_look_45 : decode cX6_look 45 = .ok (.iaload, 1) := k_46 zcX6_look rfl rfl
theorem dX6_look_46 : decode cX6_look 46 = .ok (.if_icmp .le 26, 3) := k_164 zcX6_look rfl rfl rfl
theorem dX6_look_49 : decode cX6_look 49 = .ok (.aload_n 0, 1) := k_42 zcX6_look rfl rfl
theorem dX6_look_50 : decode cX6_look 50 = .ok (.getfield 46, 3) := k_180 zcX6_look rfl rfl rfl
theorem dX6_look_53 : decode cX6_look 53 = .ok (.iload_n 2, 1) := k_28 zcX6_look rfl rfl
theorem dX6_look_54 : decode cX6_look 54 = .ok (.dup2, 1) := k_92 zcX6_look rfl rfl
theorem dX6_look_55 : decode cX6_look 55 = .ok (.iaload, 1) := k_46 zcX6_look rfl rfl
theorem dX6_look_56 : decode cX6_look 56 = .ok (.iconst 1, 1) := k_4 zcX6_look rfl rfl
theorem dX6_look_57 : decode cX6_look 57 = .ok (.iadd, 1) := k_96 zcX6_look rfl rfl
theorem dX6_look_58 : decode cX6_look 58 = .ok (.iastore, 1) := k_79 zcX6_look rfl rfl
theorem dX6_look_59 : decode cX6_look 59 = .ok (.aload_n 0, 1) := k_42 zcX6_look rfl rfl
theorem dX6_look_60 : decode cX6_look 60 = .ok (.getfield 49, 3) := k_180 zcX6_look rfl rfl rfl
theorem dX6_look_63 : decode cX6_look 63 = .ok (.iload_n 2, 1) := k_28 zcX6_look rfl rfl
theorem dX6_look_64 : decode cX6_look 64 = .ok (.aload_n 0, 1) := k_42 zcX6_look rfl rfl
theorem dX6_look_65 : decode cX6_look 65 = .ok (.iload_n 1, 1) := k_27 zcX6_look rfl rfl
theorem dX6_look_66 : decode cX6_look 66 = .ok (.bipush 6, 2) := k_16 zcX6_look rfl rfl rfl
theorem dX6_look_68 : decode cX6_look 68 = .ok (.invokevirtual 80, 3) := k_182 zcX6_look rfl rfl rfl
theorem dX6_look_71 : decode cX6_look 71 = .ok (.iastore, 1) := k_79 zcX6_look rfl rfl
theorem dX6_look_72 : decode cX6_look 72 = .ok (.aload_n 0, 1) := k_42 zcX6_look rfl rfl
theorem dX6_look_73 : decode cX6_look 73 = .ok (.getfield 43, 3) := k_180 zcX6_look rfl rfl rfl
theorem dX6_look_76 : decode cX6_look 76 = .ok (.iload_n 2, 1) := k_28 zcX6_look rfl rfl
theorem dX6_look_77 : decode cX6_look 77 = .ok (.iload_n 3, 1) := k_29 zcX6_look rfl rfl
theorem dX6_look_78 : decode cX6_look 78 = .ok (.iastore, 1) := k_79 zcX6_look rfl rfl
theorem dX6_look_79 : decode cX6_look 79 = .ok (.iinc 2 1, 3) := k_132 zcX6_look rfl rfl rfl rfl
theorem dX6_look_82 : decode cX6_look 82 = .ok (.goto (-80), 3) := k_167 zcX6_look rfl rfl rfl
theorem dX6_look_85 : decode cX6_look 85 = .ok (.return_, 1) := k_177 zcX6_look rfl rfl
theorem dX6_watch_0 : decode cX6_watch 0 = .ok (.iload_n 1, 1) := k_27 zcX6_watch rfl rfl
theorem dX6_watch_1 : decode cX6_watch 1 = .ok (.iconst 0, 1) := k_3 zcX6_watch rfl rfl
theorem dX6_watch_2 : decode cX6_watch 2 = .ok (.bipush 7, 2) := k_16 zcX6_watch rfl rfl rfl
theorem dX6_watch_4 : decode cX6_watch 4 = .ok (.invokestatic 76, 3) := k_184 zcX6_watch rfl rfl rfl
theorem dX6_watch_7 : decode cX6_watch 7 = .ok (.ifCond .eq 12, 3) := k_153 zcX6_watch rfl rfl rfl
theorem dX6_watch_10 : decode cX6_watch 10 = .ok (.aload_n 0, 1) := k_42 zcX6_watch rfl rfl
theorem dX6_watch_11 : decode cX6_watch 11 = .ok (.iload_n 2, 1) := k_28 zcX6_watch rfl rfl
theorem dX6_watch_12 : decode cX6_watch 12 = .ok (.iload_n 3, 1) := k_29 zcX6_watch rfl rfl
theorem dX6_watch_13 : decode cX6_watch 13 = .ok (.invokevirtual 207, 3) := k_182 zcX6_watch rfl rfl rfl
theorem dX6_watch_16 : decode cX6_watch 16 = .ok (.ifCond .ne 5, 3) := k_154 zcX6_watch rfl rfl rfl
theorem dX6_watch_19 : decode cX6_watch 19 = .ok (.iconst (-1), 1) := k_2 zcX6_watch rfl rfl
theorem dX6_watch_20 : decode cX6_watch 20 = .ok (.ireturn, 1) := k_172 zcX6_watch rfl rfl
theorem dX6_watch_21 : decode cX6_watch 21 = .ok (.aload_n 0, 1) := k_42 zcX6_watch rfl rfl
theorem dX6_watch_22 : decode cX6_watch 22 = .ok (.getfield 34, 3) := k_180 zcX6_watch rfl rfl rfl
theorem dX6_watch_25 : decode cX6_watch 25 = .ok (.iload_n 1, 1) := k_27 zcX6_watch rfl rfl
theorem dX6_watch_26 : decode cX6_watch 26 = .ok (.iload_n 2, 1) := k_28 zcX6_watch rfl rfl
theorem dX6_watch_27 : decode cX6_watch 27 = .ok (.iastore, 1) := k_79 zcX6_watch rfl rfl
theorem dX6_watch_28 : decode cX6_watch 28 = .ok (.aload_n 0, 1) := k_42 zcX6_watch rfl rfl
theorem dX6_watch_29 : decode cX6_watch 29 = .ok (.getfield 37, 3) := k_180 zcX6_watch rfl rfl rfl
theorem dX6_watch_32 : decode cX6_watch 32 = .ok (.iload_n 1, 1) := k_27 zcX6_watch rfl rfl
theorem dX6_watch_33 : decode cX6_watch 33 = .ok (.iload_n 3, 1) := k_29 zcX6_watch rfl rfl
theorem dX6_watch_34 : decode cX6_watch 34 = .ok (.iastore, 1) := k_79 zcX6_watch rfl rfl
theorem dX6_watch_35 : decode cX6_watch 35 = .ok (.aload_n 0, 1) := k_42 zcX6_watch rfl rfl
theorem dX6_watch_36 : decode cX6_watch 36 = .ok (.getfield 40, 3) := k_180 zcX6_watch rfl rfl rfl
theorem dX6_watch_39 : decode cX6_watch 39 = .ok (.iload_n 1, 1) := k_27 zcX6_watch rfl rfl
theorem dX6_watch_40 : decode cX6_watch 40 = .ok (.iload 4, 2) := k_21 zcX6_watch rfl rfl rfl
theorem dX6_watch_42 : decode cX6_watch 42 = .ok (.iastore, 1) := k_79 zcX6_watch rfl rfl
theorem dX6_watch_43 : decode cX6_watch 43 = .ok (.aload_n 0, 1) := k_42 zcX6_watch rfl rfl
theorem dX6_watch_44 : decode cX6_watch 44 = .ok (.getfield 43, 3) := k_180 zcX6_watch rfl rfl rfl
theorem dX6_watch_47 : decode cX6_watch 47 = .ok (.iload_n 1, 1) := k_27 zcX6_watch rfl rfl
theorem dX6_watch_48 : decode cX6_watch 48 = .ok (.aload_n 0, 1) := k_42 zcX6_watch rfl rfl
theorem dX6_watch_49 : decode cX6_watch 49 = .ok (.iload_n 2, 1) := k_28 zcX6_watch rfl rfl
theorem dX6_watch_50 : decode cX6_watch 50 = .ok (.iload_n 3, 1) := k_29 zcX6_watch rfl rfl
theorem dX6_watch_51 : decode cX6_watch 51 = .ok (.iload 4, 2) := k_21 zcX6_watch rfl rfl rfl
theorem dX6_watch_53 : decode cX6_watch 53 = .ok (.invokevirtual 203, 3) := k_182 zcX6_watch rfl rfl rfl
theorem dX6_watch_56 : decode cX6_watch 56 = .ok (.iastore, 1) := k_79 zcX6_watch rfl rfl
theorem dX6_watch_57 : decode cX6_watch 57 = .ok (.aload_n 0, 1) := k_42 zcX6_watch rfl rfl
theorem dX6_watch_58 : decode cX6_watch 58 = .ok (.getfield 46, 3) := k_180 zcX6_watch rfl rfl rfl
theorem dX6_watch_61 : decode cX6_watch 61 = .ok (.iload_n 1, 1) := k_27 zcX6_watch rfl rfl
theorem dX6_watch_62 : decode cX6_watch 62 = .ok (.iconst 0, 1) := k_3 zcX6_watch rfl rfl
theorem dX6_watch_63 : decode cX6_watch 63 = .ok (.iastore, 1) := k_79 zcX6_watch rfl rfl
theorem dX6_watch_64 : decode cX6_watch 64 = .ok (.aload_n 0, 1) := k_42 zcX6_watch rfl rfl
theorem dX6_watch_65 : decode cX6_watch 65 = .ok (.getfield 49, 3) := k_180 zcX6_watch rfl rfl rfl
theorem dX6_watch_68 : decode cX6_watch 68 = .ok (.iload_n 1, 1) := k_27 zcX6_watch rfl rfl
theorem dX6_watch_69 : decode cX6_watch 69 = .ok (.iconst (-1), 1) := k_2 zcX6_watch rfl rfl
theorem dX6_watch_70 : decode cX6_watch 70 = .ok (.iastore, 1) := k_79 zcX6_watch rfl rfl
theorem dX6_watch_71 : decode cX6_watch 71 = .ok (.aload_n 0, 1) := k_42 zcX6_watch rfl rfl
theorem dX6_watch_72 : decode cX6_watch 72 = .ok (.getfield 43, 3) := k_180 zcX6_watch rfl rfl rfl
theorem dX6_watch_75 : decode cX6_watch 75 = .ok (.iload_n 1, 1) := k_27 zcX6_watch rfl rfl
theorem dX6_watch_76 : decode cX6_watch 76 = .ok (.iaload, 1) := k_46 zcX6_watch rfl rfl
theorem dX6_watch_77 : decode cX6_watch 77 = .ok (.ireturn, 1) := k_172 zcX6_watch rfl rfl
theorem dX6_rings_0 : decode cX6_rings 0 = .ok (.aload_n 0, 1) := k_42 zcX6_rings rfl rfl
theorem dX6_rings_1 : decode cX6_rings 1 = .ok (.iload_n 1, 1) := k_27 zcX6_rings rfl rfl
theorem dX6_rings_2 : decode cX6_rings 2 = .ok (.invokevirtual 210, 3) := k_182 zcX6_rings rfl rfl rfl
theorem dX6_rings_5 : decode cX6_rings 5 = .ok (.ifCond .eq 12, 3) := k_153 zcX6_rings rfl rfl rfl
theorem dX6_rings_8 : decode cX6_rings 8 = .ok (.aload_n 0, 1) := k_42 zcX6_rings rfl rfl
theorem dX6_rings_9 : decode cX6_rings 9 = .ok (.getfield 46, 3) := k_180 zcX6_rings rfl rfl rfl
theorem dX6_rings_12 : decode cX6_rings 12 = .ok (.iload_n 1, 1) := k_27 zcX6_rings rfl rfl
theorem dX6_rings_13 : decode cX6_rings 13 = .ok (.iaload, 1) := k_46 zcX6_rings rfl rfl
theorem dX6_rings_14 : decode cX6_rings 14 = .ok (.goto 4, 3) := k_167 zcX6_rings rfl rfl rfl
theorem dX6_rings_17 : decode cX6_rings 17 = .ok (.iconst (-1), 1) := k_2 zcX6_rings rfl rfl
theorem dX6_rings_18 : decode cX6_rings 18 = .ok (.ireturn, 1) := k_172 zcX6_rings rfl rfl
theorem dX6_rang_0 : decode cX6_rang 0 = .ok (.aload_n 0, 1) := k_42 zcX6_rang rfl rfl
theorem dX6_rang_1 : decode cX6_rang 1 = .ok (.iload_n 1, 1) := k_27 zcX6_rang rfl rfl
theorem dX6_rang_2 : decode cX6_rang 2 = .ok (.invokevirtual 210, 3) := k_182 zcX6_rang rfl rfl rfl
theorem dX6_rang_5 : decode cX6_rang 5 = .ok (.ifCond .eq 12, 3) := k_153 zcX6_rang rfl rfl rfl
theorem dX6_rang_8 : decode cX6_rang 8 = .ok (.aload_n 0, 1) := k_42 zcX6_rang rfl rfl
theorem dX6_rang_9 : decode cX6_rang 9 = .ok (.getfield 49, 3) := k_180 zcX6_rang rfl rfl rfl
theorem dX6_rang_12 : decode cX6_rang 12 = .ok (.iload_n 1, 1) := k_27 zcX6_rang rfl rfl
theorem dX6_rang_13 : decode cX6_rang 13 = .ok (.iaload, 1) := k_46 zcX6_rang rfl rfl
theorem dX6_rang_14 : decode cX6_rang 14 = .ok (.goto 4, 3) := k_167 zcX6_rang rfl rfl rfl
theorem dX6_rang_17 : decode cX6_rang 17 = .ok (.iconst (-1), 1) := k_2 zcX6_rang rfl rfl
theorem dX6_rang_18 : decode cX6_rang 18 = .ok (.ireturn, 1) := k_172 zcX6_rang rfl rfl
theorem dX6_shift_0 : decode cX6_shift 0 = .ok (.bipush 121, 2) := k_16 zcX6_shift rfl rfl rfl
theorem dX6_shift_2 : decode cX6_shift 2 = .ok (.iload_n 1, 1) := k_27 zcX6_shift rfl rfl
theorem dX6_shift_3 : decode cX6_shift 3 = .ok (.imul, 1) := k_104 zcX6_shift rfl rfl
theorem dX6_shift_4 : decode cX6_shift 4 = .ok (.istore 4, 2) := k_54 zcX6_shift rfl rfl rfl
theorem dX6_shift_6 : decode cX6_shift 6 = .ok (.iload_n 3, 1) := k_29 zcX6_shift rfl rfl
theorem dX6_shift_7 : decode cX6_shift 7 = .ok (.ifCond .eq 41, 3) := k_153 zcX6_shift rfl rfl rfl
theorem dX6_shift_10 : decode cX6_shift 10 = .ok (.iload 4, 2) := k_21 zcX6_shift rfl rfl rfl
theorem dX6_shift_12 : decode cX6_shift 12 = .ok (.aload_n 0, 1) := k_42 zcX6_shift rfl rfl
theorem dX6_shift_13 : decode cX6_shift 13 = .ok (.iload_n 1, 1) := k_27 zcX6_shift rfl rfl
theorem dX6_shift_14 : decode cX6_shift 14 = .ok (.invokevirtual 116, 3) := k_182 zcX6_shift rfl rfl rfl
theorem dX6_shift_17 : decode cX6_shift 17 = .ok (.iadd, 1) := k_96 zcX6_shift rfl rfl
theorem dX6_shift_18 : decode cX6_shift 18 = .ok (.istore 5, 2) := k_54 zcX6_shift rfl rfl rfl
theorem dX6_shift_20 : decode cX6_shift 20 = .ok (.iload 5, 2) := k_21 zcX6_shift rfl rfl rfl
theorem dX6_shift_22 : decode cX6_shift 22 = .ok (.iload 4, 2) := k_21 zcX6_shift rfl rfl rfl
theorem dX6_shift_24 : decode cX6_shift 24 = .ok (.iload_n 2, 1) := k_28 zcX6_shift rfl rfl
theorem dX6_shift_25 : decode cX6_shift 25 = .ok (.iadd, 1) := k_96 zcX6_shift rfl rfl
theorem dX6_shift_26 : decode cX6_shift 26 = .ok (.if_icmp .le 19, 3) := k_164 zcX6_shift rfl rfl rfl
theorem dX6_shift_29 : decode cX6_shift 29 = .ok (.aload_n 0, 1) := k_42 zcX6_shift rfl rfl
theorem dX6_shift_30 : decode cX6_shift 30 = .ok (.iload 5, 2) := k_21 zcX6_shift rfl rfl rfl
theorem dX6_shift_32 : decode cX6_shift 32 = .ok (.iconst 1, 1) := k_4 zcX6_shift rfl rfl
theorem dX6_shift_33 : decode cX6_shift 33 = .ok (.isub, 1) := k_100 zcX6_shift rfl rfl
theorem dX6_shift_34 : decode cX6_shift 34 = .ok (.iload 5, 2) := k_21 zcX6_shift rfl rfl rfl
theorem dX6_shift_36 : decode cX6_shift 36 = .ok (.invokevirtual 213, 3) := k_182 zcX6_shift rfl rfl rfl
theorem dX6_shift_39 : decode cX6_shift 39 = .ok (.iinc 5 (-1), 3) := k_132 zcX6_shift rfl rfl rfl rfl
theorem dX6_shift_42 : decode cX6_shift 42 = .ok (.goto (-22), 3) := k_167 zcX6_shift rfl rfl rfl
theorem dX6_shift_45 : decode cX6_shift 45 = .ok (.goto 40, 3) := k_167 zcX6_shift rfl rfl rfl
theorem dX6_shift_48 : decode cX6_shift 48 = .ok (.iload 4, 2) := k_21 zcX6_shift rfl rfl rfl
theorem dX6_shift_50 : decode cX6_shift 50 = .ok (.iload_n 2, 1) := k_28 zcX6_shift rfl rfl
theorem dX6_shift_51 : decode cX6_shift 51 = .ok (.iadd, 1) := k_96 zcX6_shift rfl rfl
theorem dX6_shift_52 : decode cX6_shift 52 = .ok (.istore 5, 2) := k_54 zcX6_shift rfl rfl rfl
theorem dX6_shift_54 : decode cX6_shift 54 = .ok (.iload 5, 2) := k_21 zcX6_shift rfl rfl rfl
theorem dX6_shift_56 : decode cX6_shift 56 = .ok (.iconst 1, 1) := k_4 zcX6_shift rfl rfl
theorem dX6_shift_57 : decode cX6_shift 57 = .ok (.iadd, 1) := k_96 zcX6_shift rfl rfl
theorem dX6_shift_58 : decode cX6_shift 58 = .ok (.iload 4, 2) := k_21 zcX6_shift rfl rfl rfl
theorem dX6_shift_60 : decode cX6_shift 60 = .ok (.aload_n 0, 1) := k_42 zcX6_shift rfl rfl
theorem dX6_shift_61 : decode cX6_shift 61 = .ok (.iload_n 1, 1) := k_27 zcX6_shift rfl rfl
theorem dX6_shift_62 : decode cX6_shift 62 = .ok (.invokevirtual 116, 3) := k_182 zcX6_shift rfl rfl rfl
theorem dX6_shift_65 : decode cX6_shift 65 = .ok (.iadd, 1) := k_96 zcX6_shift rfl rfl
theorem dX6_shift_66 : decode cX6_shift 66 = .ok (.if_icmp .ge 19, 3) := k_162 zcX6_shift rfl rfl rfl
theorem dX6_shift_69 : decode cX6_shift 69 = .ok (.aload_n 0, 1) := k_42 zcX6_shift rfl rfl
theorem dX6_shift_70 : decode cX6_shift 70 = .ok (.iload 5, 2) := k_21 zcX6_shift rfl rfl rfl
theorem dX6_shift_72 : decode cX6_shift 72 = .ok (.iconst 1, 1) := k_4 zcX6_shift rfl rfl
theorem dX6_shift_73 : decode cX6_shift 73 = .ok (.iadd, 1) := k_96 zcX6_shift rfl rfl
theorem dX6_shift_74 : decode cX6_shift 74 = .ok (.iload 5, 2) := k_21 zcX6_shift rfl rfl rfl
theorem dX6_shift_76 : decode cX6_shift 76 = .ok (.invokevirtual 213, 3) := k_182 zcX6_shift rfl rfl rfl
theorem dX6_shift_79 : decode cX6_shift 79 = .ok (.iinc 5 1, 3) := k_132 zcX6_shift rfl rfl rfl rfl
theorem dX6_shift_82 : decode cX6_shift 82 = .ok (.goto (-28), 3) := k_167 zcX6_shift rfl rfl rfl
theorem dX6_shift_85 : decode cX6_shift 85 = .ok (.return_, 1) := k_177 zcX6_shift rfl rfl
theorem dX6_copyEvent_0 : decode cX6_copyEvent 0 = .ok (.aload_n 0, 1) := k_42 zcX6_copyEvent rfl rfl
theorem dX6_copyEvent_1 : decode cX6_copyEvent 1 = .ok (.getfield 13, 3) := k_180 zcX6_copyEvent rfl rfl rfl
theorem dX6_copyEvent_4 : decode cX6_copyEvent 4 = .ok (.iload_n 2, 1) := k_28 zcX6_copyEvent rfl rfl
theorem dX6_copyEvent_5 : decode cX6_copyEvent 5 = .ok (.aload_n 0, 1) := k_42 zcX6_copyEvent rfl rfl
theorem dX6_copyEvent_6 : decode cX6_copyEvent 6 = .ok (.getfield 13, 3) := k_180 zcX6_copyEvent rfl rfl rfl
theorem dX6_copyEvent_9 : decode cX6_copyEvent 9 = .ok (.iload_n 1, 1) := k_27 zcX6_copyEvent rfl rfl
theorem dX6_copyEvent_10 : decode cX6_copyEvent 10 = .ok (.iaload, 1) := k_46 zcX6_copyEvent rfl rfl
theorem dX6_copyEvent_11 : decode cX6_copyEvent 11 = .ok (.iastore, 1) := k_79 zcX6_copyEvent rfl rfl
theorem dX6_copyEvent_12 : decode cX6_copyEvent 12 = .ok (.aload_n 0, 1) := k_42 zcX6_copyEvent rfl rfl
theorem dX6_copyEvent_13 : decode cX6_copyEvent 13 = .ok (.getfield 16, 3) := k_180 zcX6_copyEvent rfl rfl rfl
theorem dX6_copyEvent_16 : decode cX6_copyEvent 16 = .ok (.iload_n 2, 1) := k_28 zcX6_copyEvent rfl rfl
theorem dX6_copyEvent_17 : decode cX6_copyEvent 17 = .ok (.aload_n 0, 1) := k_42 zcX6_copyEvent rfl rfl
theorem dX6_copyEvent_18 : decode cX6_copyEvent 18 = .ok (.getfield 16, 3) := k_180 zcX6_copyEvent rfl rfl rfl
theorem dX6_copyEvent_21 : decode cX6_copyEvent 21 = .ok (.iload_n 1, 1) := k_27 zcX6_copyEvent rfl rfl
theorem dX6_copyEvent_22 : decode cX6_copyEvent 22 = .ok (.iaload, 1) := k_46 zcX6_copyEvent rfl rfl
theorem dX6_copyEvent_23 : decode cX6_copyEvent 23 = .ok (.iastore, 1) := k_79 zcX6_copyEvent rfl rfl
theorem dX6_copyEvent_24 : decode cX6_copyEvent 24 = .ok (.aload_n 0, 1) := k_42 zcX6_copyEvent rfl rfl
theorem dX6_copyEvent_25 : decode cX6_copyEvent 25 = .ok (.getfield 19, 3) := k_180 zcX6_copyEvent rfl rfl rfl
theorem dX6_copyEvent_28 : decode cX6_copyEvent 28 = .ok (.iload_n 2, 1) := k_28 zcX6_copyEvent rfl rfl
theorem dX6_copyEvent_29 : decode cX6_copyEvent 29 = .ok (.aload_n 0, 1) := k_42 zcX6_copyEvent rfl rfl
theorem dX6_copyEvent_30 : decode cX6_copyEvent 30 = .ok (.getfield 19, 3) := k_180 zcX6_copyEvent rfl rfl rfl
theorem dX6_copyEvent_33 : decode cX6_copyEvent 33 = .ok (.iload_n 1, 1) := k_27 zcX6_copyEvent rfl rfl
theorem dX6_copyEvent_34 : decode cX6_copyEvent 34 = .ok (.iaload, 1) := k_46 zcX6_copyEvent rfl rfl
theorem dX6_copyEvent_35 : decode cX6_copyEvent 35 = .ok (.iastore, 1) := k_79 zcX6_copyEvent rfl rfl
theorem dX6_copyEvent_36 : decode cX6_copyEvent 36 = .ok (.return_, 1) := k_177 zcX6_copyEvent rfl rfl
theorem dX6_placeOf_0 : decode cX6_placeOf 0 = .ok (.iconst 0, 1) := k_3 zcX6_placeOf rfl rfl
theorem dX6_placeOf_1 : decode cX6_placeOf 1 = .ok (.istore_n 3, 1) := k_62 zcX6_placeOf rfl rfl
theorem dX6_placeOf_2 : decode cX6_placeOf 2 = .ok (.iload_n 3, 1) := k_29 zcX6_placeOf rfl rfl
theorem dX6_placeOf_3 : decode cX6_placeOf 3 = .ok (.aload_n 0, 1) := k_42 zcX6_placeOf rfl rfl
theorem dX6_placeOf_4 : decode cX6_placeOf 4 = .ok (.iload_n 1, 1) := k_27 zcX6_placeOf rfl rfl
theorem dX6_placeOf_5 : decode cX6_placeOf 5 = .ok (.invokevirtual 116, 3) := k_182 zcX6_placeOf rfl rfl rfl
theorem dX6_placeOf_8 : decode cX6_placeOf 8 = .ok (.if_icmp .ge 24, 3) := k_162 zcX6_placeOf rfl rfl rfl
theorem dX6_placeOf_11 : decode cX6_placeOf 11 = .ok (.aload_n 0, 1) := k_42 zcX6_placeOf rfl rfl
theorem dX6_placeOf_12 : decode cX6_placeOf 12 = .ok (.getfield 13, 3) := k_180 zcX6_placeOf rfl rfl rfl
theorem dX6_placeOf_15 : decode cX6_placeOf 15 = .ok (.bipush 121, 2) := k_16 zcX6_placeOf rfl rfl rfl
theorem dX6_placeOf_17 : decode cX6_placeOf 17 = .ok (.iload_n 1, 1) := k_27 zcX6_placeOf rfl rfl
theorem dX6_placeOf_18 : decode cX6_placeOf 18 = .ok (.imul, 1) := k_104 zcX6_placeOf rfl rfl
theorem dX6_placeOf_19 : decode cX6_placeOf 19 = .ok (.iload_n 3, 1) := k_29 zcX6_placeOf rfl rfl
theorem dX6_placeOf_20 : decode cX6_placeOf 20 = .ok (.iadd, 1) := k_96 zcX6_placeOf rfl rfl
theorem dX6_placeOf_21 : decode cX6_placeOf 21 = .ok (.iaload, 1) := k_46 zcX6_placeOf rfl rfl
theorem dX6_placeOf_22 : decode cX6_placeOf 22 = .ok (.iload_n 2, 1) := k_28 zcX6_placeOf rfl rfl
theorem dX6_placeOf_23 : decode cX6_placeOf 23 = .ok (.if_icmp .gt 9, 3) := k_163 zcX6_placeOf rfl rfl rfl
theorem dX6_placeOf_26 : decode cX6_placeOf 26 = .ok (.iinc 3 1, 3) := k_132 zcX6_placeOf rfl rfl rfl rfl
theorem dX6_placeOf_29 : decode cX6_placeOf 29 = .ok (.goto (-27), 3) := k_167 zcX6_placeOf rfl rfl rfl
theorem dX6_placeOf_32 : decode cX6_placeOf 32 = .ok (.iload_n 3, 1) := k_29 zcX6_placeOf rfl rfl
theorem dX6_placeOf_33 : decode cX6_placeOf 33 = .ok (.ireturn, 1) := k_172 zcX6_placeOf rfl rfl
theorem dX6_drop_0 : decode cX6_drop 0 = .ok (.aload_n 0, 1) := k_42 zcX6_drop rfl rfl
theorem dX6_drop_1 : decode cX6_drop 1 = .ok (.iload_n 1, 1) := k_27 zcX6_drop rfl rfl
theorem dX6_drop_2 : decode cX6_drop 2 = .ok (.iconst 0, 1) := k_3 zcX6_drop rfl rfl
theorem dX6_drop_3 : decode cX6_drop 3 = .ok (.iconst 0, 1) := k_3 zcX6_drop rfl rfl
theorem dX6_drop_4 : decode cX6_drop 4 = .ok (.invokevirtual 217, 3) := k_182 zcX6_drop rfl rfl rfl
theorem dX6_drop_7 : decode cX6_drop 7 = .ok (.aload_n 0, 1) := k_42 zcX6_drop rfl rfl
theorem dX6_drop_8 : decode cX6_drop 8 = .ok (.iload_n 1, 1) := k_27 zcX6_drop rfl rfl
theorem dX6_drop_9 : decode cX6_drop 9 = .ok (.iconst 5, 1) := k_8 zcX6_drop rfl rfl
theorem dX6_drop_10 : decode cX6_drop 10 = .ok (.iconst (-1), 1) := k_2 zcX6_drop rfl rfl
theorem dX6_drop_11 : decode cX6_drop 11 = .ok (.invokevirtual 188, 3) := k_182 zcX6_drop rfl rfl rfl
theorem dX6_drop_14 : decode cX6_drop 14 = .ok (.aload_n 0, 1) := k_42 zcX6_drop rfl rfl
theorem dX6_drop_15 : decode cX6_drop 15 = .ok (.iload_n 1, 1) := k_27 zcX6_drop rfl rfl
theorem dX6_drop_16 : decode cX6_drop 16 = .ok (.bipush 9, 2) := k_16 zcX6_drop rfl rfl rfl
theorem dX6_drop_18 : decode cX6_drop 18 = .ok (.iconst 1, 1) := k_4 zcX6_drop rfl rfl
theorem dX6_drop_19 : decode cX6_drop 19 = .ok (.invokevirtual 188, 3) := k_182 zcX6_drop rfl rfl rfl
theorem dX6_drop_22 : decode cX6_drop 22 = .ok (.aload_n 0, 1) := k_42 zcX6_drop rfl rfl
theorem dX6_drop_23 : decode cX6_drop 23 = .ok (.iload_n 1, 1) := k_27 zcX6_drop rfl rfl
theorem dX6_drop_24 : decode cX6_drop 24 = .ok (.bipush 12, 2) := k_16 zcX6_drop rfl rfl rfl
theorem dX6_drop_26 : decode cX6_drop 26 = .ok (.iconst (-1), 1) := k_2 zcX6_drop rfl rfl
theorem dX6_drop_27 : decode cX6_drop 27 = .ok (.invokevirtual 188, 3) := k_182 zcX6_drop rfl rfl rfl
theorem dX6_drop_30 : decode cX6_drop 30 = .ok (.aload_n 0, 1) := k_42 zcX6_drop rfl rfl
theorem dX6_drop_31 : decode cX6_drop 31 = .ok (.iload_n 1, 1) := k_27 zcX6_drop rfl rfl
theorem dX6_drop_32 : decode cX6_drop 32 = .ok (.bipush 16, 2) := k_16 zcX6_drop rfl rfl rfl
theorem dX6_drop_34 : decode cX6_drop 34 = .ok (.invokevirtual 80, 3) := k_182 zcX6_drop rfl rfl rfl
theorem dX6_drop_37 : decode cX6_drop 37 = .ok (.iconst 1, 1) := k_4 zcX6_drop rfl rfl
theorem dX6_drop_38 : decode cX6_drop 38 = .ok (.if_icmp .ne 11, 3) := k_160 zcX6_drop rfl rfl rfl
theorem dX6_drop_41 : decode cX6_drop 41 = .ok (.aload_n 0, 1) := k_42 zcX6_drop rfl rfl
theorem dX6_drop_42 : decode cX6_drop 42 = .ok (.iload_n 1, 1) := k_27 zcX6_drop rfl rfl
theorem dX6_drop_43 : decode cX6_drop 43 = .ok (.bipush 15, 2) := k_16 zcX6_drop rfl rfl rfl
theorem dX6_drop_45 : decode cX6_drop 45 = .ok (.iconst (-1), 1) := k_2 zcX6_drop rfl rfl
theorem dX6_drop_46 : decode cX6_drop 46 = .ok (.invokevirtual 188, 3) := k_182 zcX6_drop rfl rfl rfl
theorem dX6_drop_49 : decode cX6_drop 49 = .ok (.aload_n 0, 1) := k_42 zcX6_drop rfl rfl
theorem dX6_drop_50 : decode cX6_drop 50 = .ok (.iload_n 1, 1) := k_27 zcX6_drop rfl rfl
theorem dX6_drop_51 : decode cX6_drop 51 = .ok (.iconst 0, 1) := k_3 zcX6_drop rfl rfl
theorem dX6_drop_52 : decode cX6_drop 52 = .ok (.invokevirtual 221, 3) := k_182 zcX6_drop rfl rfl rfl
theorem dX6_drop_55 : decode cX6_drop 55 = .ok (.return_, 1) := k_177 zcX6_drop rfl rfl
theorem dX6_isTooMany_0 : decode cX6_isTooMany 0 = .ok (.aload_n 0, 1) := k_42 zcX6_isTooMany rfl rfl
theorem dX6_isTooMany_1 : decode cX6_isTooMany 1 = .ok (.iload_n 1, 1) := k_27 zcX6_isTooMany rfl rfl
theorem dX6_isTooMany_2 : decode cX6_isTooMany 2 = .ok (.iconst 2, 1) := k_5 zcX6_isTooMany rfl rfl
theorem dX6_isTooMany_3 : decode cX6_isTooMany 3 = .ok (.invokevirtual 80, 3) := k_182 zcX6_isTooMany rfl rfl rfl
theorem dX6_isTooMany_6 : decode cX6_isTooMany 6 = .ok (.iconst 1, 1) := k_4 zcX6_isTooMany rfl rfl
theorem dX6_isTooMany_7 : decode cX6_isTooMany 7 = .ok (.if_icmp .ne 23, 3) := k_160 zcX6_isTooMany rfl rfl rfl
theorem dX6_isTooMany_10 : decode cX6_isTooMany 10 = .ok (.aload_n 0, 1) := k_42 zcX6_isTooMany rfl rfl
theorem dX6_isTooMany_11 : decode cX6_isTooMany 11 = .ok (.iload_n 1, 1) := k_27 zcX6_isTooMany rfl rfl
theorem dX6_isTooMany_12 : decode cX6_isTooMany 12 = .ok (.invokevirtual 116, 3) := k_182 zcX6_isTooMany rfl rfl rfl
theorem dX6_isTooMany_15 : decode cX6_isTooMany 15 = .ok (.aload_n 0, 1) := k_42 zcX6_isTooMany rfl rfl
theorem dX6_isTooMany_16 : decode cX6_isTooMany 16 = .ok (.iload_n 1, 1) := k_27 zcX6_isTooMany rfl rfl
theorem dX6_isTooMany_17 : decode cX6_isTooMany 17 = .ok (.iconst 3, 1) := k_6 zcX6_isTooMany rfl rfl
theorem dX6_isTooMany_18 : decode cX6_isTooMany 18 = .ok (.invokevirtual 80, 3) := k_182 zcX6_isTooMany rfl rfl rfl
theorem dX6_isTooMany_21 : decode cX6_isTooMany 21 = .ok (.if_icmp .le 7, 3) := k_164 zcX6_isTooMany rfl rfl rfl
theorem dX6_isTooMany_24 : decode cX6_isTooMany 24 = .ok (.iconst 1, 1) := k_4 zcX6_isTooMany rfl rfl
theorem dX6_isTooMany_25 : decode cX6_isTooMany 25 = .ok (.goto 4, 3) := k_167 zcX6_isTooMany rfl rfl rfl
theorem dX6_isTooMany_28 : decode cX6_isTooMany 28 = .ok (.iconst 0, 1) := k_3 zcX6_isTooMany rfl rfl
theorem dX6_isTooMany_29 : decode cX6_isTooMany 29 = .ok (.ireturn, 1) := k_172 zcX6_isTooMany rfl rfl
theorem dX6_isTooMany_30 : decode cX6_isTooMany 30 = .ok (.aload_n 0, 1) := k_42 zcX6_isTooMany rfl rfl
theorem dX6_isTooMany_31 : decode cX6_isTooMany 31 = .ok (.iload_n 1, 1) := k_27 zcX6_isTooMany rfl rfl
theorem dX6_isTooMany_32 : decode cX6_isTooMany 32 = .ok (.iconst 2, 1) := k_5 zcX6_isTooMany rfl rfl
theorem dX6_isTooMany_33 : decode cX6_isTooMany 33 = .ok (.invokevirtual 80, 3) := k_182 zcX6_isTooMany rfl rfl rfl
theorem dX6_isTooMany_36 : decode cX6_isTooMany 36 = .ok (.iconst 2, 1) := k_5 zcX6_isTooMany rfl rfl
theorem dX6_isTooMany_37 : decode cX6_isTooMany 37 = .ok (.if_icmp .ne 41, 3) := k_160 zcX6_isTooMany rfl rfl rfl
theorem dX6_isTooMany_40 : decode cX6_isTooMany 40 = .ok (.aload_n 0, 1) := k_42 zcX6_isTooMany rfl rfl
theorem dX6_isTooMany_41 : decode cX6_isTooMany 41 = .ok (.iload_n 1, 1) := k_27 zcX6_isTooMany rfl rfl
theorem dX6_isTooMany_42 : decode cX6_isTooMany 42 = .ok (.invokevirtual 116, 3) := k_182 zcX6_isTooMany rfl rfl rfl
theorem dX6_isTooMany_45 : decode cX6_isTooMany 45 = .ok (.ifCond .le 33, 3) := k_158 zcX6_isTooMany rfl rfl rfl
theorem dX6_isTooMany_48 : decode cX6_isTooMany 48 = .ok (.aload_n 0, 1) := k_42 zcX6_isTooMany rfl rfl
theorem dX6_isTooMany_49 : decode cX6_isTooMany 49 = .ok (.getfield 13, 3) := k_180 zcX6_isTooMany rfl rfl rfl
theorem dX6_isTooMany_52 : decode cX6_isTooMany 52 = .ok (.bipush 121, 2) := k_16 zcX6_isTooMany rfl rfl rfl
theorem dX6_isTooMany_54 : decode cX6_isTooMany 54 = .ok (.iload_n 1, 1) := k_27 zcX6_isTooMany rfl rfl
theorem dX6_isTooMany_55 : decode cX6_isTooMany 55 = .ok (.imul, 1) := k_104 zcX6_isTooMany rfl rfl
theorem dX6_isTooMany_56 : decode cX6_isTooMany 56 = .ok (.iaload, 1) := k_46 zcX6_isTooMany rfl rfl
theorem dX6_isTooMany_57 : decode cX6_isTooMany 57 = .ok (.aload_n 0, 1) := k_42 zcX6_isTooMany rfl rfl
theorem dX6_isTooMany_58 : decode cX6_isTooMany 58 = .ok (.iload_n 1, 1) := k_27 zcX6_isTooMany rfl rfl
theorem dX6_isTooMany_59 : decode cX6_isTooMany 59 = .ok (.bipush 6, 2) := k_16 zcX6_isTooMany rfl rfl rfl
theorem dX6_isTooMany_61 : decode cX6_isTooMany 61 = .ok (.invokevirtual 80, 3) := k_182 zcX6_isTooMany rfl rfl rfl
theorem dX6_isTooMany_64 : decode cX6_isTooMany 64 = .ok (.aload_n 0, 1) := k_42 zcX6_isTooMany rfl rfl
theorem dX6_isTooMany_65 : decode cX6_isTooMany 65 = .ok (.iload_n 1, 1) := k_27 zcX6_isTooMany rfl rfl
theorem dX6_isTooMany_66 : decode cX6_isTooMany 66 = .ok (.iconst 3, 1) := k_6 zcX6_isTooMany rfl rfl
theorem dX6_isTooMany_67 : decode cX6_isTooMany 67 = .ok (.invokevirtual 80, 3) := k_182 zcX6_isTooMany rfl rfl rfl
theorem dX6_isTooMany_70 : decode cX6_isTooMany 70 = .ok (.isub, 1) := k_100 zcX6_isTooMany rfl rfl
theorem dX6_isTooMany_71 : decode cX6_isTooMany 71 = .ok (.if_icmp .gt 7, 3) := k_163 zcX6_isTooMany rfl rfl rfl
theorem dX6_isTooMany_74 : decode cX6_isTooMany 74 = .ok (.iconst 1, 1) := k_4 zcX6_isTooMany rfl rfl
theorem dX6_isTooMany_75 : decode cX6_isTooMany 75 = .ok (.goto 4, 3) := k_167 zcX6_isTooMany rfl rfl rfl
theorem dX6_isTooMany_78 : decode cX6_isTooMany 78 = .ok (.iconst 0, 1) := k_3 zcX6_isTooMany rfl rfl
theorem dX6_isTooMany_79 : decode cX6_isTooMany 79 = .ok (.ireturn, 1) := k_172 zcX6_isTooMany rfl rfl
theorem dX6_enter_0 : decode cX6_enter 0 = .ok (.aload_n 0, 1) := k_42 zcX6_enter rfl rfl
theorem dX6_enter_1 : decode cX6_enter 1 = .ok (.iload_n 1, 1) := k_27 zcX6_enter rfl rfl
theorem dX6_enter_2 : decode cX6_enter 2 = .ok (.iload_n 2, 1) := k_28 zcX6_enter rfl rfl
theorem dX6_enter_3 : decode cX6_enter 3 = .ok (.invokevirtual 224, 3) := k_182 zcX6_enter rfl rfl rfl
theorem dX6_enter_6 : decode cX6_enter 6 = .ok (.istore 4, 2) := k_54 zcX6_enter rfl rfl rfl
theorem dX6_enter_8 : decode cX6_enter 8 = .ok (.aload_n 0, 1) := k_42 zcX6_enter rfl rfl
theorem dX6_enter_9 : decode cX6_enter 9 = .ok (.iload_n 1, 1) := k_27 zcX6_enter rfl rfl
theorem dX6_enter_10 : decode cX6_enter 10 = .ok (.invokevirtual 116, 3) := k_182 zcX6_enter rfl rfl rfl
theorem dX6_enter_13 : decode cX6_enter 13 = .ok (.iload 4, 2) := k_21 zcX6_enter rfl rfl rfl
theorem dX6_enter_15 : decode cX6_enter 15 = .ok (.isub, 1) := k_100 zcX6_enter rfl rfl
theorem dX6_enter_16 : decode cX6_enter 16 = .ok (.istore 5, 2) := k_54 zcX6_enter rfl rfl rfl
theorem dX6_enter_18 : decode cX6_enter 18 = .ok (.aload_n 0, 1) := k_42 zcX6_enter rfl rfl
theorem dX6_enter_19 : decode cX6_enter 19 = .ok (.iload_n 1, 1) := k_27 zcX6_enter rfl rfl
theorem dX6_enter_20 : decode cX6_enter 20 = .ok (.iload 4, 2) := k_21 zcX6_enter rfl rfl rfl
theorem dX6_enter_22 : decode cX6_enter 22 = .ok (.iconst 1, 1) := k_4 zcX6_enter rfl rfl
theorem dX6_enter_23 : decode cX6_enter 23 = .ok (.invokevirtual 217, 3) := k_182 zcX6_enter rfl rfl rfl
theorem dX6_enter_26 : decode cX6_enter 26 = .ok (.aload_n 0, 1) := k_42 zcX6_enter rfl rfl
theorem dX6_enter_27 : decode cX6_enter 27 = .ok (.getfield 13, 3) := k_180 zcX6_enter rfl rfl rfl
theorem dX6_enter_30 : decode cX6_enter 30 = .ok (.bipush 121, 2) := k_16 zcX6_enter rfl rfl rfl
theorem dX6_enter_32 : decode cX6_enter 32 = .ok (.iload_n 1, 1) := k_27 zcX6_enter rfl rfl
theorem dX6_enter_33 : decode cX6_enter 33 = .ok (.imul, 1) := k_104 zcX6_enter rfl rfl
theorem dX6_enter_34 : decode cX6_enter 34 = .ok (.iload 4, 2) := k_21 zcX6_enter rfl rfl rfl
theorem dX6_enter_36 : decode cX6_enter 36 = .ok (.iadd, 1) := k_96 zcX6_enter rfl rfl
theorem dX6_enter_37 : decode cX6_enter 37 = .ok (.iload_n 2, 1) := k_28 zcX6_enter rfl rfl
theorem dX6_enter_38 : decode cX6_enter 38 = .ok (.iastore, 1) := k_79 zcX6_enter rfl rfl
theorem dX6_enter_39 : decode cX6_enter 39 = .ok (.aload_n 0, 1) := k_42 zcX6_enter rfl rfl
theorem dX6_enter_40 : decode cX6_enter 40 = .ok (.getfield 16, 3) := k_180 zcX6_enter rfl rfl rfl
theorem dX6_enter_43 : decode cX6_enter 43 = .ok (.bipush 121, 2) := k_16 zcX6_enter rfl rfl rfl
theorem dX6_enter_45 : decode cX6_enter 45 = .ok (.iload_n 1, 1) := k_27 zcX6_enter rfl rfl
theorem dX6_enter_46 : decode cX6_enter 46 = .ok (.imul, 1) := k_104 zcX6_enter rfl rfl
theorem dX6_enter_47 : decode cX6_enter 47 = .ok (.iload 4, 2) := k_21 zcX6_enter rfl rfl rfl
theorem dX6_enter_49 : decode cX6_enter 49 = .ok (.iadd, 1) := k_96 zcX6_enter rfl rfl
theorem dX6_enter_50 : decode cX6_enter 50 = .ok (.iload_n 3, 1) := k_29 zcX6_enter rfl rfl
theorem dX6_enter_51 : decode cX6_enter 51 = .ok (.iastore, 1) := k_79 zcX6_enter rfl rfl
theorem dX6_enter_52 : decode cX6_enter 52 = .ok (.aload_n 0, 1) := k_42 zcX6_enter rfl rfl
theorem dX6_enter_53 : decode cX6_enter 53 = .ok (.getfield 19, 3) := k_180 zcX6_enter rfl rfl rfl
theorem dX6_enter_56 : decode cX6_enter 56 = .ok (.bipush 121, 2) := k_16 zcX6_enter rfl rfl rfl
theorem dX6_enter_58 : decode cX6_enter 58 = .ok (.iload_n 1, 1) := k_27 zcX6_enter rfl rfl
theorem dX6_enter_59 : decode cX6_enter 59 = .ok (.imul, 1) := k_104 zcX6_enter rfl rfl
theorem dX6_enter_60 : decode cX6_enter 60 = .ok (.iload 4, 2) := k_21 zcX6_enter rfl rfl rfl
theorem dX6_enter_62 : decode cX6_enter 62 = .ok (.iadd, 1) := k_96 zcX6_enter rfl rfl
theorem dX6_enter_63 : decode cX6_enter 63 = .ok (.aload_n 0, 1) := k_42 zcX6_enter rfl rfl
theorem dX6_enter_64 : decode cX6_enter 64 = .ok (.iload_n 1, 1) := k_27 zcX6_enter rfl rfl
theorem dX6_enter_65 : decode cX6_enter 65 = .ok (.bipush 8, 2) := k_16 zcX6_enter rfl rfl rfl
theorem dX6_enter_67 : decode cX6_enter 67 = .ok (.invokevirtual 80, 3) := k_182 zcX6_enter rfl rfl rfl
theorem dX6_enter_70 : decode cX6_enter 70 = .ok (.iastore, 1) := k_79 zcX6_enter rfl rfl
theorem dX6_enter_71 : decode cX6_enter 71 = .ok (.aload_n 0, 1) := k_42 zcX6_enter rfl rfl
theorem dX6_enter_72 : decode cX6_enter 72 = .ok (.iload_n 1, 1) := k_27 zcX6_enter rfl rfl
theorem dX6_enter_73 : decode cX6_enter 73 = .ok (.iconst 5, 1) := k_8 zcX6_enter rfl rfl
theorem dX6_enter_74 : decode cX6_enter 74 = .ok (.iconst 1, 1) := k_4 zcX6_enter rfl rfl
theorem dX6_enter_75 : decode cX6_enter 75 = .ok (.invokevirtual 188, 3) := k_182 zcX6_enter rfl rfl rfl
theorem dX6_enter_78 : decode cX6_enter 78 = .ok (.aload_n 0, 1) := k_42 zcX6_enter rfl rfl
theorem dX6_enter_79 : decode cX6_enter 79 = .ok (.iload_n 1, 1) := k_27 zcX6_enter rfl rfl
theorem dX6_enter_80 : decode cX6_enter 80 = .ok (.bipush 8, 2) := k_16 zcX6_enter rfl rfl rfl
theorem dX6_enter_82 : decode cX6_enter 82 = .ok (.iconst 1, 1) := k_4 zcX6_enter rfl rfl
theorem dX6_enter_83 : decode cX6_enter 83 = .ok (.invokevirtual 188, 3) := k_182 zcX6_enter rfl rfl rfl
theorem dX6_enter_86 : decode cX6_enter 86 = .ok (.aload_n 0, 1) := k_42 zcX6_enter rfl rfl
theorem dX6_enter_87 : decode cX6_enter 87 = .ok (.iload_n 1, 1) := k_27 zcX6_enter rfl rfl
theorem dX6_enter_88 : decode cX6_enter 88 = .ok (.bipush 10, 2) := k_16 zcX6_enter rfl rfl rfl
theorem dX6_enter_90 : decode cX6_enter 90 = .ok (.iload 5, 2) := k_21 zcX6_enter rfl rfl rfl
theorem dX6_enter_92 : decode cX6_enter 92 = .ok (.invokevirtual 173, 3) := k_182 zcX6_enter rfl rfl rfl
theorem dX6_enter_95 : decode cX6_enter 95 = .ok (.iload_n 2, 1) := k_28 zcX6_enter rfl rfl
theorem dX6_enter_96 : decode cX6_enter 96 = .ok (.aload_n 0, 1) := k_42 zcX6_enter rfl rfl
theorem dX6_enter_97 : decode cX6_enter 97 = .ok (.iload_n 1, 1) := k_27 zcX6_enter rfl rfl
theorem dX6_enter_98 : decode cX6_enter 98 = .ok (.bipush 6, 2) := k_16 zcX6_enter rfl rfl rfl
theorem dX6_enter_100 : decode cX6_enter 100 = .ok (.invokevirtual 80, 3) := k_182 zcX6_enter rfl rfl rfl
theorem dX6_enter_103 : decode cX6_enter 103 = .ok (.if_icmp .le 11, 3) := k_164 zcX6_enter rfl rfl rfl
theorem dX6_enter_106 : decode cX6_enter 106 = .ok (.aload_n 0, 1) := k_42 zcX6_enter rfl rfl
theorem dX6_enter_107 : decode cX6_enter 107 = .ok (.iload_n 1, 1) := k_27 zcX6_enter rfl rfl
theorem dX6_enter_108 : decode cX6_enter 108 = .ok (.bipush 6, 2) := k_16 zcX6_enter rfl rfl rfl
theorem dX6_enter_110 : decode cX6_enter 110 = .ok (.iload_n 2, 1) := k_28 zcX6_enter rfl rfl
theorem dX6_enter_111 : decode cX6_enter 111 = .ok (.invokevirtual 173, 3) := k_182 zcX6_enter rfl rfl rfl
theorem dX6_enter_114 : decode cX6_enter 114 = .ok (.iload 5, 2) := k_21 zcX6_enter rfl rfl rfl
theorem dX6_enter_116 : decode cX6_enter 116 = .ok (.ifCond .ne 38, 3) := k_154 zcX6_enter rfl rfl rfl
theorem dX6_enter_119 : decode cX6_enter 119 = .ok (.aload_n 0, 1) := k_42 zcX6_enter rfl rfl
theorem dX6_enter_120 : decode cX6_enter 120 = .ok (.iload_n 1, 1) := k_27 zcX6_enter rfl rfl
theorem dX6_enter_121 : decode cX6_enter 121 = .ok (.bipush 14, 2) := k_16 zcX6_enter rfl rfl rfl
theorem dX6_enter_123 : decode cX6_enter 123 = .ok (.invokevirtual 80, 3) := k_182 zcX6_enter rfl rfl rfl
theorem dX6_enter_126 : decode cX6_enter 126 = .ok (.ifCond .le 7, 3) := k_158 zcX6_enter rfl rfl rfl
theorem dX6_enter_129 : decode cX6_enter 129 = .ok (.iconst 1, 1) := k_4 zcX6_enter rfl rfl
theorem dX6_enter_130 : decode cX6_enter 130 = .ok (.goto 4, 3) := k_167 zcX6_enter rfl rfl rfl
theorem dX6_enter_133 : decode cX6_enter 133 = .ok (.iconst 0, 1) := k_3 zcX6_enter rfl rfl
theorem dX6_enter_134 : decode cX6_enter 134 = .ok (.istore 6, 2) := k_54 zcX6_enter rfl rfl rfl
theorem dX6_enter_136 : decode cX6_enter 136 = .ok (.aload_n 0, 1) := k_42 zcX6_enter rfl rfl
theorem dX6_enter_137 : decode cX6_enter 137 = .ok (.iload_n 1, 1) := k_27 zcX6_enter rfl rfl
theorem dX6_enter_138 : decode cX6_enter 138 = .ok (.bipush 14, 2) := k_16 zcX6_enter rfl rfl rfl
theorem dX6_enter_140 : decode cX6_enter 140 = .ok (.iconst 1, 1) := k_4 zcX6_enter rfl rfl
theorem dX6_enter_141 : decode cX6_enter 141 = .ok (.invokevirtual 188, 3) := k_182 zcX6_enter rfl rfl rfl
theorem dX6_enter_144 : decode cX6_enter 144 = .ok (.aload_n 0, 1) := k_42 zcX6_enter rfl rfl
theorem dX6_enter_145 : decode cX6_enter 145 = .ok (.iload_n 1, 1) := k_27 zcX6_enter rfl rfl
theorem dX6_enter_146 : decode cX6_enter 146 = .ok (.iload 6, 2) := k_21 zcX6_enter rfl rfl rfl
theorem dX6_enter_148 : decode cX6_enter 148 = .ok (.invokevirtual 221, 3) := k_182 zcX6_enter rfl rfl rfl
theorem dX6_enter_151 : decode cX6_enter 151 = .ok (.goto 8, 3) := k_167 zcX6_enter rfl rfl rfl
theorem dX6_enter_154 : decode cX6_enter 154 = .ok (.aload_n 0, 1) := k_42 zcX6_enter rfl rfl
theorem dX6_enter_155 : decode cX6_enter 155 = .ok (.iload_n 1, 1) := k_27 zcX6_enter rfl rfl
theorem dX6_enter_156 : decode cX6_enter 156 = .ok (.invokevirtual 227, 3) := k_182 zcX6_enter rfl rfl rfl
theorem dX6_enter_159 : decode cX6_enter 159 = .ok (.aload_n 0, 1) := k_42 zcX6_enter rfl rfl
theorem dX6_enter_160 : decode cX6_enter 160 = .ok (.iload_n 1, 1) := k_27 zcX6_enter rfl rfl
theorem dX6_enter_161 : decode cX6_enter 161 = .ok (.invokevirtual 230, 3) := k_182 zcX6_enter rfl rfl rfl
theorem dX6_enter_164 : decode cX6_enter 164 = .ok (.ifCond .eq 11, 3) := k_153 zcX6_enter rfl rfl rfl
theorem dX6_enter_167 : decode cX6_enter 167 = .ok (.aload_n 0, 1) := k_42 zcX6_enter rfl rfl
theorem dX6_enter_168 : decode cX6_enter 168 = .ok (.iload_n 1, 1) := k_27 zcX6_enter rfl rfl
theorem dX6_enter_169 : decode cX6_enter 169 = .ok (.invokevirtual 233, 3) := k_182 zcX6_enter rfl rfl rfl
theorem dX6_enter_172 : decode cX6_enter 172 = .ok (.goto (-13), 3) := k_167 zcX6_enter rfl rfl rfl
theorem dX6_enter_175 : decode cX6_enter 175 = .ok (.return_, 1) := k_177 zcX6_enter rfl rfl
theorem dX6_seeMost_0 : decode cX6_seeMost 0 = .ok (.aload_n 0, 1) := k_42 zcX6_seeMost rfl rfl
theorem dX6_seeMost_1 : decode cX6_seeMost 1 = .ok (.iload_n 1, 1) := k_27 zcX6_seeMost rfl rfl
theorem dX6_seeMost_2 : decode cX6_seeMost 2 = .ok (.invokevirtual 116, 3) := k_182 zcX6_seeMost rfl rfl rfl
theorem dX6_seeMost_5 : decode cX6_seeMost 5 = .ok (.aload_n 0, 1) := k_42 zcX6_seeMost rfl rfl
theorem dX6_seeMost_6 : decode cX6_seeMost 6 = .ok (.iload_n 1, 1) := k_27 zcX6_seeMost rfl rfl
theorem dX6_seeMost_7 : decode cX6_seeMost 7 = .ok (.bipush 11, 2) := k_16 zcX6_seeMost rfl rfl rfl
theorem dX6_seeMost_9 : decode cX6_seeMost 9 = .ok (.invokevirtual 80, 3) := k_182 zcX6_seeMost rfl rfl rfl
theorem dX6_seeMost_12 : decode cX6_seeMost 12 = .ok (.if_icmp .le 15, 3) := k_164 zcX6_seeMost rfl rfl rfl
theorem dX6_seeMost_15 : decode cX6_seeMost 15 = .ok (.aload_n 0, 1) := k_42 zcX6_seeMost rfl rfl
theorem dX6_seeMost_16 : decode cX6_seeMost 16 = .ok (.iload_n 1, 1) := k_27 zcX6_seeMost rfl rfl
theorem dX6_seeMost_17 : decode cX6_seeMost 17 = .ok (.bipush 11, 2) := k_16 zcX6_seeMost rfl rfl rfl
theorem dX6_seeMost_19 : decode cX6_seeMost 19 = .ok (.aload_n 0, 1) := k_42 zcX6_seeMost rfl rfl
theorem dX6_seeMost_20 : decode cX6_seeMost 20 = .ok (.iload_n 1, 1) := k_27 zcX6_seeMost rfl rfl
theorem dX6_seeMost_21 : decode cX6_seeMost 21 = .ok (.invokevirtual 116, 3) := k_182 zcX6_seeMost rfl rfl rfl
theorem dX6_seeMost_24 : decode cX6_seeMost 24 = .ok (.invokevirtual 173, 3) := k_182 zcX6_seeMost rfl rfl rfl
theorem dX6_seeMost_27 : decode cX6_seeMost 27 = .ok (.return_, 1) := k_177 zcX6_seeMost rfl rfl
theorem dX6_behindCall_0 : decode cX6_behindCall 0 = .ok (.aload_n 0, 1) := k_42 zcX6_behindCall rfl rfl
theorem dX6_behindCall_1 : decode cX6_behindCall 1 = .ok (.iload_n 1, 1) := k_27 zcX6_behindCall rfl rfl
theorem dX6_behindCall_2 : decode cX6_behindCall 2 = .ok (.invokevirtual 236, 3) := k_182 zcX6_behindCall rfl rfl rfl
theorem dX6_behindCall_5 : decode cX6_behindCall 5 = .ok (.aload_n 0, 1) := k_42 zcX6_behindCall rfl rfl
theorem dX6_behindCall_6 : decode cX6_behindCall 6 = .ok (.getfield 52, 3) := k_180 zcX6_behindCall rfl rfl rfl
theorem dX6_behindCall_9 : decode cX6_behindCall 9 = .ok (.iload_n 1, 1) := k_27 zcX6_behindCall rfl rfl
theorem dX6_behindCall_10 : decode cX6_behindCall 10 = .ok (.iaload, 1) := k_46 zcX6_behindCall rfl rfl
theorem dX6_behindCall_11 : decode cX6_behindCall 11 = .ok (.ifCond .lt 13, 3) := k_155 zcX6_behindCall rfl rfl rfl
theorem dX6_behindCall_14 : decode cX6_behindCall 14 = .ok (.aload_n 0, 1) := k_42 zcX6_behindCall rfl rfl
theorem dX6_behindCall_15 : decode cX6_behindCall 15 = .ok (.aload_n 0, 1) := k_42 zcX6_behindCall rfl rfl
theorem dX6_behindCall_16 : decode cX6_behindCall 16 = .ok (.getfield 52, 3) := k_180 zcX6_behindCall rfl rfl rfl
theorem dX6_behindCall_19 : decode cX6_behindCall 19 = .ok (.iload_n 1, 1) := k_27 zcX6_behindCall rfl rfl
theorem dX6_behindCall_20 : decode cX6_behindCall 20 = .ok (.iaload, 1) := k_46 zcX6_behindCall rfl rfl
theorem dX6_behindCall_21 : decode cX6_behindCall 21 = .ok (.invokevirtual 236, 3) := k_182 zcX6_behindCall rfl rfl rfl
theorem dX6_behindCall_24 : decode cX6_behindCall 24 = .ok (.aload_n 0, 1) := k_42 zcX6_behindCall rfl rfl
theorem dX6_behindCall_25 : decode cX6_behindCall 25 = .ok (.iload_n 1, 1) := k_27 zcX6_behindCall rfl rfl
theorem dX6_behindCall_26 : decode cX6_behindCall 26 = .ok (.invokevirtual 116, 3) := k_182 zcX6_behindCall rfl rfl rfl
theorem dX6_behindCall_29 : decode cX6_behindCall 29 = .ok (.ireturn, 1) := k_172 zcX6_behindCall rfl rfl
theorem dX6_isLinkedTo_0 : decode cX6_isLinkedTo 0 = .ok (.iconst 0, 1) := k_3 zcX6_isLinkedTo rfl rfl
theorem dX6_isLinkedTo_1 : decode cX6_isLinkedTo 1 = .ok (.istore_n 2, 1) := k_61 zcX6_isLinkedTo rfl rfl
theorem dX6_isLinkedTo_2 : decode cX6_isLinkedTo 2 = .ok (.iload_n 2, 1) := k_28 zcX6_isLinkedTo rfl rfl
theorem dX6_isLinkedTo_3 : decode cX6_isLinkedTo 3 = .ok (.iconst 4, 1) := k_7 zcX6_isLinkedTo rfl rfl
theorem dX6_isLinkedTo_4 : decode cX6_isLinkedTo 4 = .ok (.if_icmp .ge 21, 3) := k_162 zcX6_isLinkedTo rfl rfl rfl
theorem dX6_isLinkedTo_7 : decode cX6_isLinkedTo 7 = .ok (.aload_n 0, 1) := k_42 zcX6_isLinkedTo rfl rfl
theorem dX6_isLinkedTo_8 : decode cX6_isLinkedTo 8 = .ok (.getfield 52, 3) := k_180 zcX6_isLinkedTo rfl rfl rfl
theorem dX6_isLinkedTo_11 : decode cX6_isLinkedTo 11 = .ok (.iload_n 2, 1) := k_28 zcX6_isLinkedTo rfl rfl
theorem dX6_isLinkedTo_12 : decode cX6_isLinkedTo 12 = .ok (.iaload, 1) := k_46 zcX6_isLinkedTo rfl rfl
theorem dX6_isLinkedTo_13 : decode cX6_isLinkedTo 13 = .ok (.iload_n 1, 1) := k_27 zcX6_isLinkedTo rfl rfl
theorem dX6_isLinkedTo_14 : decode cX6_isLinkedTo 14 = .ok (.if_icmp .ne 5, 3) := k_160 zcX6_isLinkedTo rfl rfl rfl
theorem dX6_isLinkedTo_17 : decode cX6_isLinkedTo 17 = .ok (.iconst 1, 1) := k_4 zcX6_isLinkedTo rfl rfl
theorem dX6_isLinkedTo_18 : decode cX6_isLinkedTo 18 = .ok (.ireturn, 1) := k_172 zcX6_isLinkedTo rfl rfl
theorem dX6_isLinkedTo_19 : decode cX6_isLinkedTo 19 = .ok (.iinc 2 1, 3) := k_132 zcX6_isLinkedTo rfl rfl rfl rfl
theorem dX6_isLinkedTo_22 : decode cX6_isLinkedTo 22 = .ok (.goto (-20), 3) := k_167 zcX6_isLinkedTo rfl rfl rfl
theorem dX6_isLinkedTo_25 : decode cX6_isLinkedTo 25 = .ok (.iconst 0, 1) := k_3 zcX6_isLinkedTo rfl rfl
theorem dX6_isLinkedTo_26 : decode cX6_isLinkedTo 26 = .ok (.ireturn, 1) := k_172 zcX6_isLinkedTo rfl rfl
theorem dX6_endLinks_0 : decode cX6_endLinks 0 = .ok (.aload_n 0, 1) := k_42 zcX6_endLinks rfl rfl
theorem dX6_endLinks_1 : decode cX6_endLinks 1 = .ok (.getfield 52, 3) := k_180 zcX6_endLinks rfl rfl rfl
theorem dX6_endLinks_4 : decode cX6_endLinks 4 = .ok (.iload_n 1, 1) := k_27 zcX6_endLinks rfl rfl
theorem dX6_endLinks_5 : decode cX6_endLinks 5 = .ok (.iconst (-1), 1) := k_2 zcX6_endLinks rfl rfl
theorem dX6_endLinks_6 : decode cX6_endLinks 6 = .ok (.iastore, 1) := k_79 zcX6_endLinks rfl rfl
theorem dX6_endLinks_7 : decode cX6_endLinks 7 = .ok (.iconst 0, 1) := k_3 zcX6_endLinks rfl rfl
theorem dX6_endLinks_8 : decode cX6_endLinks 8 = .ok (.istore_n 2, 1) := k_61 zcX6_endLinks rfl rfl
theorem dX6_endLinks_9 : decode cX6_endLinks 9 = .ok (.iload_n 2, 1) := k_28 zcX6_endLinks rfl rfl
theorem dX6_endLinks_10 : decode cX6_endLinks 10 = .ok (.iconst 4, 1) := k_7 zcX6_endLinks rfl rfl
theorem dX6_endLinks_11 : decode cX6_endLinks 11 = .ok (.if_icmp .ge 26, 3) := k_162 zcX6_endLinks rfl rfl rfl
theorem dX6_endLinks_14 : decode cX6_endLinks 14 = .ok (.aload_n 0, 1) := k_42 zcX6_endLinks rfl rfl
theorem dX6_endLinks_15 : decode cX6_endLinks 15 = .ok (.getfield 52, 3) := k_180 zcX6_endLinks rfl rfl rfl
theorem dX6_endLinks_18 : decode cX6_endLinks 18 = .ok (.iload_n 2, 1) := k_28 zcX6_endLinks rfl rfl
theorem dX6_endLinks_19 : decode cX6_endLinks 19 = .ok (.iaload, 1) := k_46 zcX6_endLinks rfl rfl
theorem dX6_endLinks_20 : decode cX6_endLinks 20 = .ok (.iload_n 1, 1) := k_27 zcX6_endLinks rfl rfl
theorem dX6_endLinks_21 : decode cX6_endLinks 21 = .ok (.if_icmp .ne 10, 3) := k_160 zcX6_endLinks rfl rfl rfl
theorem dX6_endLinks_24 : decode cX6_endLinks 24 = .ok (.aload_n 0, 1) := k_42 zcX6_endLinks rfl rfl
theorem dX6_endLinks_25 : decode cX6_endLinks 25 = .ok (.getfield 52, 3) := k_180 zcX6_endLinks rfl rfl rfl
theorem dX6_endLinks_28 : decode cX6_endLinks 28 = .ok (.iload_n 2, 1) := k_28 zcX6_endLinks rfl rfl
theorem dX6_endLinks_29 : decode cX6_endLinks 29 = .ok (.iconst (-1), 1) := k_2 zcX6_endLinks rfl rfl
theorem dX6_endLinks_30 : decode cX6_endLinks 30 = .ok (.iastore, 1) := k_79 zcX6_endLinks rfl rfl
theorem dX6_endLinks_31 : decode cX6_endLinks 31 = .ok (.iinc 2 1, 3) := k_132 zcX6_endLinks rfl rfl rfl rfl
theorem dX6_endLinks_34 : decode cX6_endLinks 34 = .ok (.goto (-25), 3) := k_167 zcX6_endLinks rfl rfl rfl
theorem dX6_endLinks_37 : decode cX6_endLinks 37 = .ok (.return_, 1) := k_177 zcX6_endLinks rfl rfl
theorem dX6_link_0 : decode cX6_link 0 = .ok (.aload_n 0, 1) := k_42 zcX6_link rfl rfl
theorem dX6_link_1 : decode cX6_link 1 = .ok (.iload_n 2, 1) := k_28 zcX6_link rfl rfl
theorem dX6_link_2 : decode cX6_link 2 = .ok (.invokevirtual 124, 3) := k_182 zcX6_link rfl rfl rfl
theorem dX6_link_5 : decode cX6_link 5 = .ok (.ifCond .eq 45, 3) := k_153 zcX6_link rfl rfl rfl
theorem dX6_link_8 : decode cX6_link 8 = .ok (.iload_n 1, 1) := k_27 zcX6_link rfl rfl
theorem dX6_link_9 : decode cX6_link 9 = .ok (.iload_n 2, 1) := k_28 zcX6_link rfl rfl
theorem dX6_link_10 : decode cX6_link 10 = .ok (.if_icmp .eq 40, 3) := k_159 zcX6_link rfl rfl rfl
theorem dX6_link_13 : decode cX6_link 13 = .ok (.aload_n 0, 1) := k_42 zcX6_link rfl rfl
theorem dX6_link_14 : decode cX6_link 14 = .ok (.iload_n 1, 1) := k_27 zcX6_link rfl rfl
theorem dX6_link_15 : decode cX6_link 15 = .ok (.iload 4, 2) := k_21 zcX6_link rfl rfl rfl
theorem dX6_link_17 : decode cX6_link 17 = .ok (.invokevirtual 207, 3) := k_182 zcX6_link rfl rfl rfl
theorem dX6_link_20 : decode cX6_link 20 = .ok (.ifCond .eq 30, 3) := k_153 zcX6_link rfl rfl rfl
theorem dX6_link_23 : decode cX6_link 23 = .ok (.iload_n 3, 1) := k_29 zcX6_link rfl rfl
theorem dX6_link_24 : decode cX6_link 24 = .ok (.iconst 0, 1) := k_3 zcX6_link rfl rfl
theorem dX6_link_25 : decode cX6_link 25 = .ok (.ldc 239, 2) := k_18 zcX6_link rfl rfl rfl
theorem dX6_link_27 : decode cX6_link 27 = .ok (.invokestatic 76, 3) := k_184 zcX6_link rfl rfl rfl
theorem dX6_link_30 : decode cX6_link 30 = .ok (.ifCond .eq 20, 3) := k_153 zcX6_link rfl rfl rfl
theorem dX6_link_33 : decode cX6_link 33 = .ok (.aload_n 0, 1) := k_42 zcX6_link rfl rfl
theorem dX6_link_34 : decode cX6_link 34 = .ok (.getfield 52, 3) := k_180 zcX6_link rfl rfl rfl
theorem dX6_link_37 : decode cX6_link 37 = .ok (.iload_n 2, 1) := k_28 zcX6_link rfl rfl
theorem dX6_link_38 : decode cX6_link 38 = .ok (.iaload, 1) := k_46 zcX6_link rfl rfl
theorem dX6_link_39 : decode cX6_link 39 = .ok (.ifCond .ge 11, 3) := k_156 zcX6_link rfl rfl rfl
theorem dX6_link_42 : decode cX6_link 42 = .ok (.aload_n 0, 1) := k_42 zcX6_link rfl rfl
theorem dX6_link_43 : decode cX6_link 43 = .ok (.iload_n 1, 1) := k_27 zcX6_link rfl rfl
theorem dX6_link_44 : decode cX6_link 44 = .ok (.invokevirtual 240, 3) := k_182 zcX6_link rfl rfl rfl
theorem dX6_link_47 : decode cX6_link 47 = .ok (.ifCond .eq 5, 3) := k_153 zcX6_link rfl rfl rfl
theorem dX6_link_50 : decode cX6_link 50 = .ok (.iconst 0, 1) := k_3 zcX6_link rfl rfl
theorem dX6_link_51 : decode cX6_link 51 = .ok (.ireturn, 1) := k_172 zcX6_link rfl rfl
theorem dX6_link_52 : decode cX6_link 52 = .ok (.aload_n 0, 1) := k_42 zcX6_link rfl rfl
theorem dX6_link_53 : decode cX6_link 53 = .ok (.getfield 52, 3) := k_180 zcX6_link rfl rfl rfl
theorem dX6_link_56 : decode cX6_link 56 = .ok (.iload_n 1, 1) := k_27 zcX6_link rfl rfl
theorem dX6_link_57 : decode cX6_link 57 = .ok (.iload_n 2, 1) := k_28 zcX6_link rfl rfl
theorem dX6_link_58 : decode cX6_link 58 = .ok (.iastore, 1) := k_79 zcX6_link rfl rfl
theorem dX6_link_59 : decode cX6_link 59 = .ok (.aload_n 0, 1) := k_42 zcX6_link rfl rfl
theorem dX6_link_60 : decode cX6_link 60 = .ok (.getfield 55, 3) := k_180 zcX6_link rfl rfl rfl
theorem dX6_link_63 : decode cX6_link 63 = .ok (.iload_n 1, 1) := k_27 zcX6_link rfl rfl
theorem dX6_link_64 : decode cX6_link 64 = .ok (.iload_n 3, 1) := k_29 zcX6_link rfl rfl
theorem dX6_link_65 : decode cX6_link 65 = .ok (.iastore, 1) := k_79 zcX6_link rfl rfl
theorem dX6_link_66 : decode cX6_link 66 = .ok (.aload_n 0, 1) := k_42 zcX6_link rfl rfl
theorem dX6_link_67 : decode cX6_link 67 = .ok (.getfield 58, 3) := k_180 zcX6_link rfl rfl rfl
theorem dX6_link_70 : decode cX6_link 70 = .ok (.iload_n 1, 1) := k_27 zcX6_link rfl rfl
theorem dX6_link_71 : decode cX6_link 71 = .ok (.iload 4, 2) := k_21 zcX6_link rfl rfl rfl
theorem dX6_link_73 : decode cX6_link 73 = .ok (.iastore, 1) := k_79 zcX6_link rfl rfl
theorem dX6_link_74 : decode cX6_link 74 = .ok (.aload_n 0, 1) := k_42 zcX6_link rfl rfl
theorem dX6_link_75 : decode cX6_link 75 = .ok (.getfield 61, 3) := k_180 zcX6_link rfl rfl rfl
theorem dX6_link_78 : decode cX6_link 78 = .ok (.iload_n 1, 1) := k_27 zcX6_link rfl rfl
theorem dX6_link_79 : decode cX6_link 79 = .ok (.iconst 0, 1) := k_3 zcX6_link rfl rfl
theorem dX6_link_80 : decode cX6_link 80 = .ok (.iastore, 1) := k_79 zcX6_link rfl rfl
theorem dX6_link_81 : decode cX6_link 81 = .ok (.iconst 1, 1) := k_4 zcX6_link rfl rfl
theorem dX6_link_82 : decode cX6_link 82 = .ok (.ireturn, 1) := k_172 zcX6_link rfl rfl
theorem dX6_unlink_0 : decode cX6_unlink 0 = .ok (.aload_n 0, 1) := k_42 zcX6_unlink rfl rfl
theorem dX6_unlink_1 : decode cX6_unlink 1 = .ok (.iload_n 1, 1) := k_27 zcX6_unlink rfl rfl
theorem dX6_unlink_2 : decode cX6_unlink 2 = .ok (.invokevirtual 124, 3) := k_182 zcX6_unlink rfl rfl rfl
theorem dX6_unlink_5 : decode cX6_unlink 5 = .ok (.ifCond .eq 12, 3) := k_153 zcX6_unlink rfl rfl rfl
theorem dX6_unlink_8 : decode cX6_unlink 8 = .ok (.aload_n 0, 1) := k_42 zcX6_unlink rfl rfl
theorem dX6_unlink_9 : decode cX6_unlink 9 = .ok (.getfield 52, 3) := k_180 zcX6_unlink rfl rfl rfl
theorem dX6_unlink_12 : decode cX6_unlink 12 = .ok (.iload_n 1, 1) := k_27 zcX6_unlink rfl rfl
theorem dX6_unlink_13 : decode cX6_unlink 13 = .ok (.iaload, 1) := k_46 zcX6_unlink rfl rfl
theorem dX6_unlink_14 : decode cX6_unlink 14 = .ok (.ifCond .ge 5, 3) := k_156 zcX6_unlink rfl rfl rfl
theorem dX6_unlink_17 : decode cX6_unlink 17 = .ok (.iconst 0, 1) := k_3 zcX6_unlink rfl rfl
theorem dX6_unlink_18 : decode cX6_unlink 18 = .ok (.ireturn, 1) := k_172 zcX6_unlink rfl rfl
theorem dX6_unlink_19 : decode cX6_unlink 19 = .ok (.aload_n 0, 1) := k_42 zcX6_unlink rfl rfl
theorem dX6_unlink_20 : decode cX6_unlink 20 = .ok (.getfield 52, 3) := k_180 zcX6_unlink rfl rfl rfl
theorem dX6_unlink_23 : decode cX6_unlink 23 = .ok (.iload_n 1, 1) := k_27 zcX6_unlink rfl rfl
theorem dX6_unlink_24 : decode cX6_unlink 24 = .ok (.iconst (-1), 1) := k_2 zcX6_unlink rfl rfl
theorem dX6_unlink_25 : decode cX6_unlink 25 = .ok (.iastore, 1) := k_79 zcX6_unlink rfl rfl
theorem dX6_unlink_26 : decode cX6_unlink 26 = .ok (.iconst 1, 1) := k_4 zcX6_unlink rfl rfl
theorem dX6_unlink_27 : decode cX6_unlink 27 = .ok (.ireturn, 1) := k_172 zcX6_unlink rfl rfl
theorem dX6_linked_0 : decode cX6_linked 0 = .ok (.aload_n 0, 1) := k_42 zcX6_linked rfl rfl
theorem dX6_linked_1 : decode cX6_linked 1 = .ok (.iload_n 1, 1) := k_27 zcX6_linked rfl rfl
theorem dX6_linked_2 : decode cX6_linked 2 = .ok (.invokevirtual 124, 3) := k_182 zcX6_linked rfl rfl rfl
theorem dX6_linked_5 : decode cX6_linked 5 = .ok (.ifCond .eq 12, 3) := k_153 zcX6_linked rfl rfl rfl
theorem dX6_linked_8 : decode cX6_linked 8 = .ok (.aload_n 0, 1) := k_42 zcX6_linked rfl rfl
theorem dX6_linked_9 : decode cX6_linked 9 = .ok (.getfield 52, 3) := k_180 zcX6_linked rfl rfl rfl
theorem dX6_linked_12 : decode cX6_linked 12 = .ok (.iload_n 1, 1) := k_27 zcX6_linked rfl rfl
theorem dX6_linked_13 : decode cX6_linked 13 = .ok (.iaload, 1) := k_46 zcX6_linked rfl rfl
theorem dX6_linked_14 : decode cX6_linked 14 = .ok (.ifCond .ge 5, 3) := k_156 zcX6_linked rfl rfl rfl
theorem dX6_linked_17 : decode cX6_linked 17 = .ok (.iconst (-1), 1) := k_2 zcX6_linked rfl rfl
theorem dX6_linked_18 : decode cX6_linked 18 = .ok (.ireturn, 1) := k_172 zcX6_linked rfl rfl
theorem dX6_linked_19 : decode cX6_linked 19 = .ok (.iload_n 2, 1) := k_28 zcX6_linked rfl rfl
theorem dX6_linked_20 : decode cX6_linked 20 = .ok (.tableswitch 60 0 3 #[32, 39, 46, 53], 32) := by decide +kernel
theorem dX6_linked_52 : decode cX6_linked 52 = .ok (.aload_n 0, 1) := k_42 zcX6_linked rfl rfl
theorem dX6_linked_53 : decode cX6_linked 53 = .ok (.getfield 52, 3) := k_180 zcX6_linked rfl rfl rfl
theorem dX6_linked_56 : decode cX6_linked 56 = .ok (.iload_n 1, 1) := k_27 zcX6_linked rfl rfl
theorem dX6_linked_57 : decode cX6_linked 57 = .ok (.iaload, 1) := k_46 zcX6_linked rfl rfl
theorem dX6_linked_58 : decode cX6_linked 58 = .ok (.ireturn, 1) := k_172 zcX6_linked rfl rfl
theorem dX6_linked_59 : decode cX6_linked 59 = .ok (.aload_n 0, 1) := k_42 zcX6_linked rfl rfl
theorem dX6_linked_60 : decode cX6_linked 60 = .ok (.getfield 55, 3) := k_180 zcX6_linked rfl rfl rfl
theorem dX6_linked_63 : decode cX6_linked 63 = .ok (.iload_n 1, 1) := k_27 zcX6_linked rfl rfl
theorem dX6_linked_64 : decode cX6_linked 64 = .ok (.iaload, 1) := k_46 zcX6_linked rfl rfl
theorem dX6_linked_65 : decode cX6_linked 65 = .ok (.ireturn, 1) := k_172 zcX6_linked rfl rfl
theorem dX6_linked_66 : decode cX6_linked 66 = .ok (.aload_n 0, 1) := k_42 zcX6_linked rfl rfl
theorem dX6_linked_67 : decode cX6_linked 67 = .ok (.getfield 58, 3) := k_180 zcX6_linked rfl rfl rfl
theorem dX6_linked_70 : decode cX6_linked 70 = .ok (.iload_n 1, 1) := k_27 zcX6_linked rfl rfl
theorem dX6_linked_71 : decode cX6_linked 71 = .ok (.iaload, 1) := k_46 zcX6_linked rfl rfl
theorem dX6_linked_72 : decode cX6_linked 72 = .ok (.ireturn, 1) := k_172 zcX6_linked rfl rfl
theorem dX6_linked_73 : decode cX6_linked 73 = .ok (.aload_n 0, 1) := k_42 zcX6_linked rfl rfl
theorem dX6_linked_74 : decode cX6_linked 74 = .ok (.getfield 61, 3) := k_180 zcX6_linked rfl rfl rfl
theorem dX6_linked_77 : decode cX6_linked 77 = .ok (.iload_n 1, 1) := k_27 zcX6_linked rfl rfl
theorem dX6_linked_78 : decode cX6_linked 78 = .ok (.iaload, 1) := k_46 zcX6_linked rfl rfl
theorem dX6_linked_79 : decode cX6_linked 79 = .ok (.ireturn, 1) := k_172 zcX6_linked rfl rfl
theorem dX6_linked_80 : decode cX6_linked 80 = .ok (.iconst (-1), 1) := k_2 zcX6_linked rfl rfl
theorem dX6_linked_81 : decode cX6_linked 81 = .ok (.ireturn, 1) := k_172 zcX6_linked rfl rfl
theorem dX6_isLost_0 : decode cX6_isLost 0 = .ok (.aload_n 0, 1) := k_42 zcX6_isLost rfl rfl
theorem dX6_isLost_1 : decode cX6_isLost 1 = .ok (.iload_n 1, 1) := k_27 zcX6_isLost rfl rfl
theorem dX6_isLost_2 : decode cX6_isLost 2 = .ok (.bipush 6, 2) := k_16 zcX6_isLost rfl rfl rfl
theorem dX6_isLost_4 : decode cX6_isLost 4 = .ok (.invokevirtual 80, 3) := k_182 zcX6_isLost rfl rfl rfl
theorem dX6_isLost_7 : decode cX6_isLost 7 = .ok (.ifCond .lt 25, 3) := k_155 zcX6_isLost rfl rfl rfl
theorem dX6_isLost_10 : decode cX6_isLost 10 = .ok (.iload_n 2, 1) := k_28 zcX6_isLost rfl rfl
theorem dX6_isLost_11 : decode cX6_isLost 11 = .ok (.aload_n 0, 1) := k_42 zcX6_isLost rfl rfl
theorem dX6_isLost_12 : decode cX6_isLost 12 = .ok (.iload_n 1, 1) := k_27 zcX6_isLost rfl rfl
theorem dX6_isLost_13 : decode cX6_isLost 13 = .ok (.bipush 6, 2) := k_16 zcX6_isLost rfl rfl rfl
theorem dX6_isLost_15 : decode cX6_isLost 15 = .ok (.invokevirtual 80, 3) := k_182 zcX6_isLost rfl rfl rfl
theorem dX6_isLost_18 : decode cX6_isLost 18 = .ok (.aload_n 0, 1) := k_42 zcX6_isLost rfl rfl
theorem dX6_isLost_19 : decode cX6_isLost 19 = .ok (.iload_n 1, 1) := k_27 zcX6_isLost rfl rfl
theorem dX6_isLost_20 : decode cX6_isLost 20 = .ok (.iconst 4, 1) := k_7 zcX6_isLost rfl rfl
theorem dX6_isLost_21 : decode cX6_isLost 21 = .ok (.invokevirtual 80, 3) := k_182 zcX6_isLost rfl rfl rfl
theorem dX6_isLost_24 : decode cX6_isLost 24 = .ok (.isub, 1) := k_100 zcX6_isLost rfl rfl
theorem dX6_isLost_25 : decode cX6_isLost 25 = .ok (.if_icmp .ge 7, 3) := k_162 zcX6_isLost rfl rfl rfl
theorem dX6_isLost_28 : decode cX6_isLost 28 = .ok (.iconst 1, 1) := k_4 zcX6_isLost rfl rfl
theorem dX6_isLost_29 : decode cX6_isLost 29 = .ok (.goto 4, 3) := k_167 zcX6_isLost rfl rfl rfl
theorem dX6_isLost_32 : decode cX6_isLost 32 = .ok (.iconst 0, 1) := k_3 zcX6_isLost rfl rfl
theorem dX6_isLost_33 : decode cX6_isLost 33 = .ok (.ireturn, 1) := k_172 zcX6_isLost rfl rfl
theorem dX6_isFull_0 : decode cX6_isFull 0 = .ok (.aload_n 0, 1) := k_42 zcX6_isFull rfl rfl
theorem dX6_isFull_1 : decode cX6_isFull 1 = .ok (.iload_n 1, 1) := k_27 zcX6_isFull rfl rfl
theorem dX6_isFull_2 : decode cX6_isFull 2 = .ok (.iconst 2, 1) := k_5 zcX6_isFull rfl rfl
theorem dX6_isFull_3 : decode cX6_isFull 3 = .ok (.invokevirtual 80, 3) := k_182 zcX6_isFull rfl rfl rfl
theorem dX6_isFull_6 : decode cX6_isFull 6 = .ok (.iconst 1, 1) := k_4 zcX6_isFull rfl rfl
theorem dX6_isFull_7 : decode cX6_isFull 7 = .ok (.if_icmp .eq 17, 3) := k_159 zcX6_isFull rfl rfl rfl
theorem dX6_isFull_10 : decode cX6_isFull 10 = .ok (.aload_n 0, 1) := k_42 zcX6_isFull rfl rfl
theorem dX6_isFull_11 : decode cX6_isFull 11 = .ok (.iload_n 1, 1) := k_27 zcX6_isFull rfl rfl
theorem dX6_isFull_12 : decode cX6_isFull 12 = .ok (.invokevirtual 116, 3) := k_182 zcX6_isFull rfl rfl rfl
theorem dX6_isFull_15 : decode cX6_isFull 15 = .ok (.bipush 120, 2) := k_16 zcX6_isFull rfl rfl rfl
theorem dX6_isFull_17 : decode cX6_isFull 17 = .ok (.if_icmp .ne 7, 3) := k_160 zcX6_isFull rfl rfl rfl
theorem dX6_isFull_20 : decode cX6_isFull 20 = .ok (.iconst 1, 1) := k_4 zcX6_isFull rfl rfl
theorem dX6_isFull_21 : decode cX6_isFull 21 = .ok (.goto 4, 3) := k_167 zcX6_isFull rfl rfl rfl
theorem dX6_isFull_24 : decode cX6_isFull 24 = .ok (.iconst 0, 1) := k_3 zcX6_isFull rfl rfl
theorem dX6_isFull_25 : decode cX6_isFull 25 = .ok (.ireturn, 1) := k_172 zcX6_isFull rfl rfl
theorem dX6_give_0 : decode cX6_give 0 = .ok (.aload_n 0, 1) := k_42 zcX6_give rfl rfl
theorem dX6_give_1 : decode cX6_give 1 = .ok (.getfield 52, 3) := k_180 zcX6_give rfl rfl rfl
theorem dX6_give_4 : decode cX6_give 4 = .ok (.iload_n 1, 1) := k_27 zcX6_give rfl rfl
theorem dX6_give_5 : decode cX6_give 5 = .ok (.iaload, 1) := k_46 zcX6_give rfl rfl
theorem dX6_give_6 : decode cX6_give 6 = .ok (.ifCond .lt 11, 3) := k_155 zcX6_give rfl rfl rfl
theorem dX6_give_9 : decode cX6_give 9 = .ok (.aload_n 0, 1) := k_42 zcX6_give rfl rfl
theorem dX6_give_10 : decode cX6_give 10 = .ok (.iload_n 1, 1) := k_27 zcX6_give rfl rfl
theorem dX6_give_11 : decode cX6_give 11 = .ok (.invokevirtual 116, 3) := k_182 zcX6_give rfl rfl rfl
theorem dX6_give_14 : decode cX6_give 14 = .ok (.ifCond .ne 4, 3) := k_154 zcX6_give rfl rfl rfl
theorem dX6_give_17 : decode cX6_give 17 = .ok (.return_, 1) := k_177 zcX6_give rfl rfl
theorem dX6_give_18 : decode cX6_give 18 = .ok (.aload_n 0, 1) := k_42 zcX6_give rfl rfl
theorem dX6_give_19 : decode cX6_give 19 = .ok (.iload_n 1, 1) := k_27 zcX6_give rfl rfl
theorem dX6_give_20 : decode cX6_give 20 = .ok (.invokevirtual 116, 3) := k_182 zcX6_give rfl rfl rfl
theorem dX6_give_23 : decode cX6_give 23 = .ok (.iconst 1, 1) := k_4 zcX6_give rfl rfl
theorem dX6_give_24 : decode cX6_give 24 = .ok (.isub, 1) := k_100 zcX6_give rfl rfl
theorem dX6_give_25 : decode cX6_give 25 = .ok (.istore_n 3, 1) := k_62 zcX6_give rfl rfl
theorem dX6_give_26 : decode cX6_give 26 = .ok (.aload_n 0, 1) := k_42 zcX6_give rfl rfl
theorem dX6_give_27 : decode cX6_give 27 = .ok (.getfield 13, 3) := k_180 zcX6_give rfl rfl rfl
theorem dX6_give_30 : decode cX6_give 30 = .ok (.bipush 121, 2) := k_16 zcX6_give rfl rfl rfl
theorem dX6_give_32 : decode cX6_give 32 = .ok (.iload_n 1, 1) := k_27 zcX6_give rfl rfl
theorem dX6_give_33 : decode cX6_give 33 = .ok (.imul, 1) := k_104 zcX6_give rfl rfl
theorem dX6_give_34 : decode cX6_give 34 = .ok (.iload_n 3, 1) := k_29 zcX6_give rfl rfl
theorem dX6_give_35 : decode cX6_give 35 = .ok (.iadd, 1) := k_96 zcX6_give rfl rfl
theorem dX6_give_36 : decode cX6_give 36 = .ok (.iaload, 1) := k_46 zcX6_give rfl rfl
theorem dX6_give_37 : decode cX6_give 37 = .ok (.istore 4, 2) := k_54 zcX6_give rfl rfl rfl
theorem dX6_give_39 : decode cX6_give 39 = .ok (.iload_n 2, 1) := k_28 zcX6_give rfl rfl
theorem dX6_give_40 : decode cX6_give 40 = .ok (.iload 4, 2) := k_21 zcX6_give rfl rfl rfl
theorem dX6_give_42 : decode cX6_give 42 = .ok (.isub, 1) := k_100 zcX6_give rfl rfl
theorem dX6_give_43 : decode cX6_give 43 = .ok (.aload_n 0, 1) := k_42 zcX6_give rfl rfl
theorem dX6_give_44 : decode cX6_give 44 = .ok (.getfield 55, 3) := k_180 zcX6_give rfl rfl rfl
theorem dX6_give_47 : decode cX6_give 47 = .ok (.iload_n 1, 1) := k_27 zcX6_give rfl rfl
theorem dX6_give_48 : decode cX6_give 48 = .ok (.iaload, 1) := k_46 zcX6_give rfl rfl
theorem dX6_give_49 : decode cX6_give 49 = .ok (.if_icmp .gt 4, 3) := k_163 zcX6_give rfl rfl rfl
theorem dX6_give_52 : decode cX6_give 52 = .ok (.return_, 1) := k_177 zcX6_give rfl rfl
theorem dX6_give_53 : decode cX6_give 53 = .ok (.iload_n 3, 1) := k_29 zcX6_give rfl rfl
theorem dX6_give_54 : decode cX6_give 54 = .ok (.istore 5, 2) := k_54 zcX6_give rfl rfl rfl
theorem dX6_give_56 : decode cX6_give 56 = .ok (.iload 5, 2) := k_21 zcX6_give rfl rfl rfl
theorem dX6_give_58 : decode cX6_give 58 = .ok (.ifCond .le 45, 3) := k_158 zcX6_give rfl rfl rfl
theorem dX6_give_61 : decode cX6_give 61 = .ok (.aload_n 0, 1) := k_42 zcX6_give rfl rfl
theorem dX6_give_62 : decode cX6_give 62 = .ok (.getfield 13, 3) := k_180 zcX6_give rfl rfl rfl
theorem dX6_give_65 : decode cX6_give 65 = .ok (.bipush 121, 2) := k_16 zcX6_give rfl rfl rfl
theorem dX6_give_67 : decode cX6_give 67 = .ok (.iload_n 1, 1) := k_27 zcX6_give rfl rfl
theorem dX6_give_68 : decode cX6_give 68 = .ok (.imul, 1) := k_104 zcX6_give rfl rfl
theorem dX6_give_69 : decode cX6_give 69 = .ok (.iload 5, 2) := k_21 zcX6_give rfl rfl rfl
theorem dX6_give_71 : decode cX6_give 71 = .ok (.iadd, 1) := k_96 zcX6_give rfl rfl
theorem dX6_give_72 : decode cX6_give 72 = .ok (.iaload, 1) := k_46 zcX6_give rfl rfl
theorem dX6_give_73 : decode cX6_give 73 = .ok (.aload_n 0, 1) := k_42 zcX6_give rfl rfl
theorem dX6_give_74 : decode cX6_give 74 = .ok (.getfield 13, 3) := k_180 zcX6_give rfl rfl rfl
theorem dX6_give_77 : decode cX6_give 77 = .ok (.bipush 121, 2) := k_16 zcX6_give rfl rfl rfl
theorem dX6_give_79 : decode cX6_give 79 = .ok (.iload_n 1, 1) := k_27 zcX6_give rfl rfl
theorem dX6_give_80 : decode cX6_give 80 = .ok (.imul, 1) := k_104 zcX6_give rfl rfl
theorem dX6_give_81 : decode cX6_give 81 = .ok (.iload 5, 2) := k_21 zcX6_give rfl rfl rfl
theorem dX6_give_83 : decode cX6_give 83 = .ok (.iadd, 1) := k_96 zcX6_give rfl rfl
theorem dX6_give_84 : decode cX6_give 84 = .ok (.iconst 1, 1) := k_4 zcX6_give rfl rfl
theorem dX6_give_85 : decode cX6_give 85 = .ok (.isub, 1) := k_100 zcX6_give rfl rfl
theorem dX6_give_86 : decode cX6_give 86 = .ok (.iaload, 1) := k_46 zcX6_give rfl rfl
theorem dX6_give_87 : decode cX6_give 87 = .ok (.isub, 1) := k_100 zcX6_give rfl rfl
theorem dX6_give_88 : decode cX6_give 88 = .ok (.aload_n 0, 1) := k_42 zcX6_give rfl rfl
theorem dX6_give_89 : decode cX6_give 89 = .ok (.getfield 55, 3) := k_180 zcX6_give rfl rfl rfl
theorem dX6_give_92 : decode cX6_give 92 = .ok (.iload_n 1, 1) := k_27 zcX6_give rfl rfl
theorem dX6_give_93 : decode cX6_give 93 = .ok (.iaload, 1) := k_46 zcX6_give rfl rfl
theorem dX6_give_94 : decode cX6_give 94 = .ok (.if_icmp .gt 9, 3) := k_163 zcX6_give rfl rfl rfl
theorem dX6_give_97 : decode cX6_give 97 = .ok (.iinc 5 (-1), 3) := k_132 zcX6_give rfl rfl rfl rfl
theorem dX6_give_100 : decode cX6_give 100 = .ok (.goto (-44), 3) := k_167 zcX6_give rfl rfl rfl
theorem dX6_give_103 : decode cX6_give 103 = .ok (.aload_n 0, 1) := k_42 zcX6_give rfl rfl
theorem dX6_give_104 : decode cX6_give 104 = .ok (.iload_n 1, 1) := k_27 zcX6_give rfl rfl
theorem dX6_give_105 : decode cX6_give 105 = .ok (.iload 5, 2) := k_21 zcX6_give rfl rfl rfl
theorem dX6_give_107 : decode cX6_give 107 = .ok (.iload_n 3, 1) := k_29 zcX6_give rfl rfl
theorem dX6_give_108 : decode cX6_give 108 = .ok (.aload_n 0, 1) := k_42 zcX6_give rfl rfl
theorem dX6_give_109 : decode cX6_give 109 = .ok (.getfield 58, 3) := k_180 zcX6_give rfl rfl rfl
theorem dX6_give_112 : decode cX6_give 112 = .ok (.iload_n 1, 1) := k_27 zcX6_give rfl rfl
theorem dX6_give_113 : decode cX6_give 113 = .ok (.iaload, 1) := k_46 zcX6_give rfl rfl
theorem dX6_give_114 : decode cX6_give 114 = .ok (.invokevirtual 243, 3) := k_182 zcX6_give rfl rfl rfl
theorem dX6_give_117 : decode cX6_give 117 = .ok (.istore 6, 2) := k_54 zcX6_give rfl rfl rfl
theorem dX6_give_119 : decode cX6_give 119 = .ok (.iload 6, 2) := k_21 zcX6_give rfl rfl rfl
theorem dX6_give_121 : decode cX6_give 121 = .ok (.ldc 160, 2) := k_18 zcX6_give rfl rfl rfl
theorem dX6_give_123 : decode cX6_give 123 = .ok (.if_icmp .ne 4, 3) := k_160 zcX6_give rfl rfl rfl
theorem dX6_give_126 : decode cX6_give 126 = .ok (.return_, 1) := k_177 zcX6_give rfl rfl
theorem dX6_give_127 : decode cX6_give 127 = .ok (.aload_n 0, 1) := k_42 zcX6_give rfl rfl
theorem dX6_give_128 : decode cX6_give 128 = .ok (.getfield 52, 3) := k_180 zcX6_give rfl rfl rfl
theorem dX6_give_131 : decode cX6_give 131 = .ok (.iload_n 1, 1) := k_27 zcX6_give rfl rfl
theorem dX6_give_132 : decode cX6_give 132 = .ok (.iaload, 1) := k_46 zcX6_give rfl rfl
theorem dX6_give_133 : decode cX6_give 133 = .ok (.istore 7, 2) := k_54 zcX6_give rfl rfl rfl
theorem dX6_give_135 : decode cX6_give 135 = .ok (.aload_n 0, 1) := k_42 zcX6_give rfl rfl
theorem dX6_give_136 : decode cX6_give 136 = .ok (.iload 7, 2) := k_21 zcX6_give rfl rfl rfl
theorem dX6_give_138 : decode cX6_give 138 = .ok (.iload 4, 2) := k_21 zcX6_give rfl rfl rfl
theorem dX6_give_140 : decode cX6_give 140 = .ok (.invokevirtual 247, 3) := k_182 zcX6_give rfl rfl rfl
theorem dX6_give_143 : decode cX6_give 143 = .ok (.ifCond .eq 13, 3) := k_153 zcX6_give rfl rfl rfl
theorem dX6_give_146 : decode cX6_give 146 = .ok (.aload_n 0, 1) := k_42 zcX6_give rfl rfl
theorem dX6_give_147 : decode cX6_give 147 = .ok (.iload 7, 2) := k_21 zcX6_give rfl rfl rfl
theorem dX6_give_149 : decode cX6_give 149 = .ok (.bipush 7, 2) := k_16 zcX6_give rfl rfl rfl
theorem dX6_give_151 : decode cX6_give 151 = .ok (.iconst 1, 1) := k_4 zcX6_give rfl rfl
theorem dX6_give_152 : decode cX6_give 152 = .ok (.invokevirtual 188, 3) := k_182 zcX6_give rfl rfl rfl
theorem dX6_give_155 : decode cX6_give 155 = .ok (.return_, 1) := k_177 zcX6_give rfl rfl
theorem dX6_give_156 : decode cX6_give 156 = .ok (.aload_n 0, 1) := k_42 zcX6_give rfl rfl
theorem dX6_give_157 : decode cX6_give 157 = .ok (.iload 7, 2) := k_21 zcX6_give rfl rfl rfl
theorem dX6_give_159 : decode cX6_give 159 = .ok (.invokevirtual 250, 3) := k_182 zcX6_give rfl rfl rfl
theorem dX6_give_162 : decode cX6_give 162 = .ok (.ifCond .eq 4, 3) := k_153 zcX6_give rfl rfl rfl
theorem dX6_give_165 : decode cX6_give 165 = .ok (.return_, 1) := k_177 zcX6_give rfl rfl
theorem dX6_give_166 : decode cX6_give 166 = .ok (.aload_n 0, 1) := k_42 zcX6_give rfl rfl
theorem dX6_give_167 : decode cX6_give 167 = .ok (.getfield 61, 3) := k_180 zcX6_give rfl rfl rfl
theorem dX6_give_170 : decode cX6_give 170 = .ok (.iload_n 1, 1) := k_27 zcX6_give rfl rfl
theorem dX6_give_171 : decode cX6_give 171 = .ok (.dup2, 1) := k_92 zcX6_give rfl rfl
theorem dX6_give_172 : decode cX6_give 172 = .ok (.iaload, 1) := k_46 zcX6_give rfl rfl
theorem dX6_give_173 : decode cX6_give 173 = .ok (.iconst 1, 1) := k_4 zcX6_give rfl rfl
theorem dX6_give_174 : decode cX6_give 174 = .ok (.iadd, 1) := k_96 zcX6_give rfl rfl
theorem dX6_give_175 : decode cX6_give 175 = .ok (.iastore, 1) := k_79 zcX6_give rfl rfl
theorem dX6_give_176 : decode cX6_give 176 = .ok (.aload_n 0, 1) := k_42 zcX6_give rfl rfl
theorem dX6_give_177 : decode cX6_give 177 = .ok (.iload 7, 2) := k_21 zcX6_give rfl rfl rfl
theorem dX6_give_179 : decode cX6_give 179 = .ok (.iload 4, 2) := k_21 zcX6_give rfl rfl rfl
theorem dX6_give_181 : decode cX6_give 181 = .ok (.iload 6, 2) := k_21 zcX6_give rfl rfl rfl
theorem dX6_give_183 : decode cX6_give 183 = .ok (.sipush (-1000), 3) := k_17 zcX6_give rfl rfl rfl
theorem dX6_give_186 : decode cX6_give 186 = .ok (.if_icmp .ge 9, 3) := k_162 zcX6_give rfl rfl rfl
theorem dX6_give_189 : decode cX6_give 189 = .ok (.sipush (-1000), 3) := k_17 zcX6_give rfl rfl rfl
theorem dX6_give_192 : decode cX6_give 192 = .ok (.goto 19, 3) := k_167 zcX6_give rfl rfl rfl
theorem dX6_give_195 : decode cX6_give 195 = .ok (.iload 6, 2) := k_21 zcX6_give rfl rfl rfl
theorem dX6_give_197 : decode cX6_give 197 = .ok (.sipush 1000, 3) := k_17 zcX6_give rfl rfl rfl
theorem dX6_give_200 : decode cX6_give 200 = .ok (.if_icmp .le 9, 3) := k_164 zcX6_give rfl rfl rfl
theorem dX6_give_203 : decode cX6_give 203 = .ok (.sipush 1000, 3) := k_17 zcX6_give rfl rfl rfl
theorem dX6_give_206 : decode cX6_give 206 = .ok (.goto 5, 3) := k_167 zcX6_give rfl rfl rfl
theorem dX6_give_209 : decode cX6_give 209 = .ok (.iload 6, 2) := k_21 zcX6_give rfl rfl rfl
theorem dX6_give_211 : decode cX6_give 211 = .ok (.invokevirtual 253, 3) := k_182 zcX6_give rfl rfl rfl
theorem dX6_give_214 : decode cX6_give 214 = .ok (.return_, 1) := k_177 zcX6_give rfl rfl
theorem dX6_come_0 : decode cX6_come 0 = .ok (.aload_n 0, 1) := k_42 zcX6_come rfl rfl
theorem dX6_come_1 : decode cX6_come 1 = .ok (.iload_n 1, 1) := k_27 zcX6_come rfl rfl
theorem dX6_come_2 : decode cX6_come 2 = .ok (.invokevirtual 124, 3) := k_182 zcX6_come rfl rfl rfl
theorem dX6_come_5 : decode cX6_come 5 = .ok (.ifCond .eq 26, 3) := k_153 zcX6_come rfl rfl rfl
theorem dX6_come_8 : decode cX6_come 8 = .ok (.iload_n 2, 1) := k_28 zcX6_come rfl rfl
theorem dX6_come_9 : decode cX6_come 9 = .ok (.iconst 0, 1) := k_3 zcX6_come rfl rfl
theorem dX6_come_10 : decode cX6_come 10 = .ok (.ldc 239, 2) := k_18 zcX6_come rfl rfl rfl
theorem dX6_come_12 : decode cX6_come 12 = .ok (.invokestatic 76, 3) := k_184 zcX6_come rfl rfl rfl
theorem dX6_come_15 : decode cX6_come 15 = .ok (.ifCond .eq 16, 3) := k_153 zcX6_come rfl rfl rfl
theorem dX6_come_18 : decode cX6_come 18 = .ok (.iload_n 3, 1) := k_29 zcX6_come rfl rfl
theorem dX6_come_19 : decode cX6_come 19 = .ok (.sipush (-1000), 3) := k_17 zcX6_come rfl rfl rfl
theorem dX6_come_22 : decode cX6_come 22 = .ok (.sipush 1000, 3) := k_17 zcX6_come rfl rfl rfl
theorem dX6_come_25 : decode cX6_come 25 = .ok (.invokestatic 76, 3) := k_184 zcX6_come rfl rfl rfl
theorem dX6_come_28 : decode cX6_come 28 = .ok (.ifCond .ne 5, 3) := k_154 zcX6_come rfl rfl rfl
theorem dX6_come_31 : decode cX6_come 31 = .ok (.iconst (-1), 1) := k_2 zcX6_come rfl rfl
theorem dX6_come_32 : decode cX6_come 32 = .ok (.ireturn, 1) := k_172 zcX6_come rfl rfl
theorem dX6_come_33 : decode cX6_come 33 = .ok (.aload_n 0, 1) := k_42 zcX6_come rfl rfl
theorem dX6_come_34 : decode cX6_come 34 = .ok (.iload_n 1, 1) := k_27 zcX6_come rfl rfl
theorem dX6_come_35 : decode cX6_come 35 = .ok (.iload_n 2, 1) := k_28 zcX6_come rfl rfl
theorem dX6_come_36 : decode cX6_come 36 = .ok (.invokevirtual 247, 3) := k_182 zcX6_come rfl rfl rfl
theorem dX6_come_39 : decode cX6_come 39 = .ok (.ifCond .eq 14, 3) := k_153 zcX6_come rfl rfl rfl
theorem dX6_come_42 : decode cX6_come 42 = .ok (.aload_n 0, 1) := k_42 zcX6_come rfl rfl
theorem dX6_come_43 : decode cX6_come 43 = .ok (.iload_n 1, 1) := k_27 zcX6_come rfl rfl
theorem dX6_come_44 : decode cX6_come 44 = .ok (.bipush 7, 2) := k_16 zcX6_come rfl rfl rfl
theorem dX6_come_46 : decode cX6_come 46 = .ok (.iconst 1, 1) := k_4 zcX6_come rfl rfl
theorem dX6_come_47 : decode cX6_come 47 = .ok (.invokevirtual 188, 3) := k_182 zcX6_come rfl rfl rfl
theorem dX6_come_50 : decode cX6_come 50 = .ok (.bipush (-2), 2) := k_16 zcX6_come rfl rfl rfl
theorem dX6_come_52 : decode cX6_come 52 = .ok (.ireturn, 1) := k_172 zcX6_come rfl rfl
theorem dX6_come_53 : decode cX6_come 53 = .ok (.aload_n 0, 1) := k_42 zcX6_come rfl rfl
theorem dX6_come_54 : decode cX6_come 54 = .ok (.iload_n 1, 1) := k_27 zcX6_come rfl rfl
theorem dX6_come_55 : decode cX6_come 55 = .ok (.invokevirtual 250, 3) := k_182 zcX6_come rfl rfl rfl
theorem dX6_come_58 : decode cX6_come 58 = .ok (.ifCond .eq 5, 3) := k_153 zcX6_come rfl rfl rfl
theorem dX6_come_61 : decode cX6_come 61 = .ok (.iconst (-1), 1) := k_2 zcX6_come rfl rfl
theorem dX6_come_62 : decode cX6_come 62 = .ok (.ireturn, 1) := k_172 zcX6_come rfl rfl
theorem dX6_come_63 : decode cX6_come 63 = .ok (.aload_n 0, 1) := k_42 zcX6_come rfl rfl
theorem dX6_come_64 : decode cX6_come 64 = .ok (.iload_n 1, 1) := k_27 zcX6_come rfl rfl
theorem dX6_come_65 : decode cX6_come 65 = .ok (.iload_n 2, 1) := k_28 zcX6_come rfl rfl
theorem dX6_come_66 : decode cX6_come 66 = .ok (.invokevirtual 256, 3) := k_182 zcX6_come rfl rfl rfl
theorem dX6_come_69 : decode cX6_come 69 = .ok (.aload_n 0, 1) := k_42 zcX6_come rfl rfl
theorem dX6_come_70 : decode cX6_come 70 = .ok (.iload_n 1, 1) := k_27 zcX6_come rfl rfl
theorem dX6_come_71 : decode cX6_come 71 = .ok (.iload_n 2, 1) := k_28 zcX6_come rfl rfl
theorem dX6_come_72 : decode cX6_come 72 = .ok (.iload_n 3, 1) := k_29 zcX6_come rfl rfl
theorem dX6_come_73 : decode cX6_come 73 = .ok (.invokevirtual 253, 3) := k_182 zcX6_come rfl rfl rfl
theorem dX6_come_76 : decode cX6_come 76 = .ok (.aload_n 0, 1) := k_42 zcX6_come rfl rfl
theorem dX6_come_77 : decode cX6_come 77 = .ok (.iload_n 1, 1) := k_27 zcX6_come rfl rfl
theorem dX6_come_78 : decode cX6_come 78 = .ok (.invokevirtual 259, 3) := k_182 zcX6_come rfl rfl rfl
theorem dX6_come_81 : decode cX6_come 81 = .ok (.ireturn, 1) := k_172 zcX6_come rfl rfl
theorem dX6_burst_0 : decode cX6_burst 0 = .ok (.aload_n 0, 1) := k_42 zcX6_burst rfl rfl
theorem dX6_burst_1 : decode cX6_burst 1 = .ok (.iload_n 1, 1) := k_27 zcX6_burst rfl rfl
theorem dX6_burst_2 : decode cX6_burst 2 = .ok (.invokevirtual 124, 3) := k_182 zcX6_burst rfl rfl rfl
theorem dX6_burst_5 : decode cX6_burst 5 = .ok (.ifCond .eq 27, 3) := k_153 zcX6_burst rfl rfl rfl
theorem dX6_burst_8 : decode cX6_burst 8 = .ok (.iload_n 2, 1) := k_28 zcX6_burst rfl rfl
theorem dX6_burst_9 : decode cX6_burst 9 = .ok (.iconst 1, 1) := k_4 zcX6_burst rfl rfl
theorem dX6_burst_10 : decode cX6_burst 10 = .ok (.bipush 40, 2) := k_16 zcX6_burst rfl rfl rfl
theorem dX6_burst_12 : decode cX6_burst 12 = .ok (.invokestatic 76, 3) := k_184 zcX6_burst rfl rfl rfl
theorem dX6_burst_15 : decode cX6_burst 15 = .ok (.ifCond .eq 17, 3) := k_153 zcX6_burst rfl rfl rfl
theorem dX6_burst_18 : decode cX6_burst 18 = .ok (.iload 4, 2) := k_21 zcX6_burst rfl rfl rfl
theorem dX6_burst_20 : decode cX6_burst 20 = .ok (.sipush (-1000), 3) := k_17 zcX6_burst rfl rfl rfl
theorem dX6_burst_23 : decode cX6_burst 23 = .ok (.sipush 1000, 3) := k_17 zcX6_burst rfl rfl rfl
theorem dX6_burst_26 : decode cX6_burst 26 = .ok (.invokestatic 76, 3) := k_184 zcX6_burst rfl rfl rfl
theorem dX6_burst_29 : decode cX6_burst 29 = .ok (.ifCond .ne 5, 3) := k_154 zcX6_burst rfl rfl rfl
theorem dX6_burst_32 : decode cX6_burst 32 = .ok (.iconst (-1), 1) := k_2 zcX6_burst rfl rfl
theorem dX6_burst_33 : decode cX6_burst 33 = .ok (.ireturn, 1) := k_172 zcX6_burst rfl rfl
theorem dX6_burst_34 : decode cX6_burst 34 = .ok (.iload_n 3, 1) := k_29 zcX6_burst rfl rfl
theorem dX6_burst_35 : decode cX6_burst 35 = .ok (.sipush (-1000), 3) := k_17 zcX6_burst rfl rfl rfl
theorem dX6_burst_38 : decode cX6_burst 38 = .ok (.sipush 1000, 3) := k_17 zcX6_burst rfl rfl rfl
theorem dX6_burst_41 : decode cX6_burst 41 = .ok (.invokestatic 76, 3) := k_184 zcX6_burst rfl rfl rfl
theorem dX6_burst_44 : decode cX6_burst 44 = .ok (.ifCond .eq 37, 3) := k_153 zcX6_burst rfl rfl rfl
theorem dX6_burst_47 : decode cX6_burst 47 = .ok (.iload_n 3, 1) := k_29 zcX6_burst rfl rfl
theorem dX6_burst_48 : decode cX6_burst 48 = .ok (.iload 4, 2) := k_21 zcX6_burst rfl rfl rfl
theorem dX6_burst_50 : decode cX6_burst 50 = .ok (.iload_n 2, 1) := k_28 zcX6_burst rfl rfl
theorem dX6_burst_51 : decode cX6_burst 51 = .ok (.iconst 1, 1) := k_4 zcX6_burst rfl rfl
theorem dX6_burst_52 : decode cX6_burst 52 = .ok (.isub, 1) := k_100 zcX6_burst rfl rfl
theorem dX6_burst_53 : decode cX6_burst 53 = .ok (.imul, 1) := k_104 zcX6_burst rfl rfl
theorem dX6_burst_54 : decode cX6_burst 54 = .ok (.iadd, 1) := k_96 zcX6_burst rfl rfl
theorem dX6_burst_55 : decode cX6_burst 55 = .ok (.sipush (-1000), 3) := k_17 zcX6_burst rfl rfl rfl
theorem dX6_burst_58 : decode cX6_burst 58 = .ok (.sipush 1000, 3) := k_17 zcX6_burst rfl rfl rfl
theorem dX6_burst_61 : decode cX6_burst 61 = .ok (.invokestatic 76, 3) := k_184 zcX6_burst rfl rfl rfl
theorem dX6_burst_64 : decode cX6_burst 64 = .ok (.ifCond .eq 17, 3) := k_153 zcX6_burst rfl rfl rfl
theorem dX6_burst_67 : decode cX6_burst 67 = .ok (.aload_n 0, 1) := k_42 zcX6_burst rfl rfl
theorem dX6_burst_68 : decode cX6_burst 68 = .ok (.iload_n 1, 1) := k_27 zcX6_burst rfl rfl
theorem dX6_burst_69 : decode cX6_burst 69 = .ok (.bipush 6, 2) := k_16 zcX6_burst rfl rfl rfl
theorem dX6_burst_71 : decode cX6_burst 71 = .ok (.invokevirtual 80, 3) := k_182 zcX6_burst rfl rfl rfl
theorem dX6_burst_74 : decode cX6_burst 74 = .ok (.iload_n 2, 1) := k_28 zcX6_burst rfl rfl
theorem dX6_burst_75 : decode cX6_burst 75 = .ok (.iadd, 1) := k_96 zcX6_burst rfl rfl
theorem dX6_burst_76 : decode cX6_burst 76 = .ok (.ldc 239, 2) := k_18 zcX6_burst rfl rfl rfl
theorem dX6_burst_78 : decode cX6_burst 78 = .ok (.if_icmp .le 5, 3) := k_164 zcX6_burst rfl rfl rfl
theorem dX6_burst_81 : decode cX6_burst 81 = .ok (.iconst (-1), 1) := k_2 zcX6_burst rfl rfl
theorem dX6_burst_82 : decode cX6_burst 82 = .ok (.ireturn, 1) := k_172 zcX6_burst rfl rfl
theorem dX6_burst_83 : decode cX6_burst 83 = .ok (.aload_n 0, 1) := k_42 zcX6_burst rfl rfl
theorem dX6_burst_84 : decode cX6_burst 84 = .ok (.iload_n 1, 1) := k_27 zcX6_burst rfl rfl
theorem dX6_burst_85 : decode cX6_burst 85 = .ok (.iconst 2, 1) := k_5 zcX6_burst rfl rfl
theorem dX6_burst_86 : decode cX6_burst 86 = .ok (.invokevirtual 80, 3) := k_182 zcX6_burst rfl rfl rfl
theorem dX6_burst_89 : decode cX6_burst 89 = .ok (.iconst 1, 1) := k_4 zcX6_burst rfl rfl
theorem dX6_burst_90 : decode cX6_burst 90 = .ok (.if_icmp .eq 17, 3) := k_159 zcX6_burst rfl rfl rfl
theorem dX6_burst_93 : decode cX6_burst 93 = .ok (.aload_n 0, 1) := k_42 zcX6_burst rfl rfl
theorem dX6_burst_94 : decode cX6_burst 94 = .ok (.iload_n 1, 1) := k_27 zcX6_burst rfl rfl
theorem dX6_burst_95 : decode cX6_burst 95 = .ok (.invokevirtual 116, 3) := k_182 zcX6_burst rfl rfl rfl
theorem dX6_burst_98 : decode cX6_burst 98 = .ok (.iload_n 2, 1) := k_28 zcX6_burst rfl rfl
theorem dX6_burst_99 : decode cX6_burst 99 = .ok (.iadd, 1) := k_96 zcX6_burst rfl rfl
theorem dX6_burst_100 : decode cX6_burst 100 = .ok (.bipush 120, 2) := k_16 zcX6_burst rfl rfl rfl
theorem dX6_burst_102 : decode cX6_burst 102 = .ok (.if_icmp .le 5, 3) := k_164 zcX6_burst rfl rfl rfl
theorem dX6_burst_105 : decode cX6_burst 105 = .ok (.iconst (-1), 1) := k_2 zcX6_burst rfl rfl
theorem dX6_burst_106 : decode cX6_burst 106 = .ok (.ireturn, 1) := k_172 zcX6_burst rfl rfl
theorem dX6_burst_107 : decode cX6_burst 107 = .ok (.aload_n 0, 1) := k_42 zcX6_burst rfl rfl
theorem dX6_burst_108 : decode cX6_burst 108 = .ok (.iload_n 1, 1) := k_27 zcX6_burst rfl rfl
theorem dX6_burst_109 : decode cX6_burst 109 = .ok (.bipush 6, 2) := k_16 zcX6_burst rfl rfl rfl
theorem dX6_burst_111 : decode cX6_burst 111 = .ok (.invokevirtual 80, 3) := k_182 zcX6_burst rfl rfl rfl
theorem dX6_burst_114 : decode cX6_burst 114 = .ok (.iconst 1, 1) := k_4 zcX6_burst rfl rfl
theorem dX6_burst_115 : decode cX6_burst 115 = .ok (.iadd, 1) := k_96 zcX6_burst rfl rfl
theorem dX6_burst_116 : decode cX6_burst 116 = .ok (.istore 5, 2) := k_54 zcX6_burst rfl rfl rfl
theorem dX6_burst_118 : decode cX6_burst 118 = .ok (.iconst 0, 1) := k_3 zcX6_burst rfl rfl
theorem dX6_burst_119 : decode cX6_burst 119 = .ok (.istore 6, 2) := k_54 zcX6_burst rfl rfl rfl
theorem dX6_burst_121 : decode cX6_burst 121 = .ok (.iload 6, 2) := k_21 zcX6_burst rfl rfl rfl
theorem dX6_burst_123 : decode cX6_burst 123 = .ok (.iload_n 2, 1) := k_28 zcX6_burst rfl rfl
theorem dX6_burst_124 : decode cX6_burst 124 = .ok (.if_icmp .ge 36, 3) := k_162 zcX6_burst rfl rfl rfl
theorem dX6_burst_127 : decode cX6_burst 127 = .ok (.aload_n 0, 1) := k_42 zcX6_burst rfl rfl
theorem dX6_burst_128 : decode cX6_burst 128 = .ok (.iload_n 1, 1) := k_27 zcX6_burst rfl rfl
theorem dX6_burst_129 : decode cX6_burst 129 = .ok (.iload 5, 2) := k_21 zcX6_burst rfl rfl rfl
theorem dX6_burst_131 : decode cX6_burst 131 = .ok (.iload 6, 2) := k_21 zcX6_burst rfl rfl rfl
theorem dX6_burst_133 : decode cX6_burst 133 = .ok (.iadd, 1) := k_96 zcX6_burst rfl rfl
theorem dX6_burst_134 : decode cX6_burst 134 = .ok (.invokevirtual 256, 3) := k_182 zcX6_burst rfl rfl rfl
theorem dX6_burst_137 : decode cX6_burst 137 = .ok (.aload_n 0, 1) := k_42 zcX6_burst rfl rfl
theorem dX6_burst_138 : decode cX6_burst 138 = .ok (.iload_n 1, 1) := k_27 zcX6_burst rfl rfl
theorem dX6_burst_139 : decode cX6_burst 139 = .ok (.iload 5, 2) := k_21 zcX6_burst rfl rfl rfl
theorem dX6_burst_141 : decode cX6_burst 141 = .ok (.iload 6, 2) := k_21 zcX6_burst rfl rfl rfl
theorem dX6_burst_143 : decode cX6_burst 143 = .ok (.iadd, 1) := k_96 zcX6_burst rfl rfl
theorem dX6_burst_144 : decode cX6_burst 144 = .ok (.iload_n 3, 1) := k_29 zcX6_burst rfl rfl
theorem dX6_burst_145 : decode cX6_burst 145 = .ok (.iload 4, 2) := k_21 zcX6_burst rfl rfl rfl
theorem dX6_burst_147 : decode cX6_burst 147 = .ok (.iload 6, 2) := k_21 zcX6_burst rfl rfl rfl
theorem dX6_burst_149 : decode cX6_burst 149 = .ok (.imul, 1) := k_104 zcX6_burst rfl rfl
theorem dX6_burst_150 : decode cX6_burst 150 = .ok (.iadd, 1) := k_96 zcX6_burst rfl rfl
theorem dX6_burst_151 : decode cX6_burst 151 = .ok (.invokevirtual 253, 3) := k_182 zcX6_burst rfl rfl rfl
theorem dX6_burst_154 : decode cX6_burst 154 = .ok (.iinc 6 1, 3) := k_132 zcX6_burst rfl rfl rfl rfl
theorem dX6_burst_157 : decode cX6_burst 157 = .ok (.goto (-36), 3) := k_167 zcX6_burst rfl rfl rfl
theorem dX6_burst_160 : decode cX6_burst 160 = .ok (.aload_n 0, 1) := k_42 zcX6_burst rfl rfl
theorem dX6_burst_161 : decode cX6_burst 161 = .ok (.iload_n 1, 1) := k_27 zcX6_burst rfl rfl
theorem dX6_burst_162 : decode cX6_burst 162 = .ok (.invokevirtual 259, 3) := k_182 zcX6_burst rfl rfl rfl
theorem dX6_burst_165 : decode cX6_burst 165 = .ok (.ireturn, 1) := k_172 zcX6_burst rfl rfl
theorem dX6_leave_0 : decode cX6_leave 0 = .ok (.aload_n 0, 1) := k_42 zcX6_leave rfl rfl
theorem dX6_leave_1 : decode cX6_leave 1 = .ok (.iload_n 1, 1) := k_27 zcX6_leave rfl rfl
theorem dX6_leave_2 : decode cX6_leave 2 = .ok (.invokevirtual 124, 3) := k_182 zcX6_leave rfl rfl rfl
theorem dX6_leave_5 : decode cX6_leave 5 = .ok (.ifCond .eq 16, 3) := k_153 zcX6_leave rfl rfl rfl
theorem dX6_leave_8 : decode cX6_leave 8 = .ok (.iload_n 2, 1) := k_28 zcX6_leave rfl rfl
theorem dX6_leave_9 : decode cX6_leave 9 = .ok (.iconst 0, 1) := k_3 zcX6_leave rfl rfl
theorem dX6_leave_10 : decode cX6_leave 10 = .ok (.aload_n 0, 1) := k_42 zcX6_leave rfl rfl
theorem dX6_leave_11 : decode cX6_leave 11 = .ok (.iload_n 1, 1) := k_27 zcX6_leave rfl rfl
theorem dX6_leave_12 : decode cX6_leave 12 = .ok (.invokevirtual 116, 3) := k_182 zcX6_leave rfl rfl rfl
theorem dX6_leave_15 : decode cX6_leave 15 = .ok (.invokestatic 76, 3) := k_184 zcX6_leave rfl rfl rfl
theorem dX6_leave_18 : decode cX6_leave 18 = .ok (.ifCond .ne 5, 3) := k_154 zcX6_leave rfl rfl rfl
theorem dX6_leave_21 : decode cX6_leave 21 = .ok (.iconst (-1), 1) := k_2 zcX6_leave rfl rfl
theorem dX6_leave_22 : decode cX6_leave 22 = .ok (.ireturn, 1) := k_172 zcX6_leave rfl rfl
theorem dX6_leave_23 : decode cX6_leave 23 = .ok (.iconst 0, 1) := k_3 zcX6_leave rfl rfl
theorem dX6_leave_24 : decode cX6_leave 24 = .ok (.istore_n 3, 1) := k_62 zcX6_leave rfl rfl
theorem dX6_leave_25 : decode cX6_leave 25 = .ok (.iload_n 3, 1) := k_29 zcX6_leave rfl rfl
theorem dX6_leave_26 : decode cX6_leave 26 = .ok (.iload_n 2, 1) := k_28 zcX6_leave rfl rfl
theorem dX6_leave_27 : decode cX6_leave 27 = .ok (.if_icmp .ge 14, 3) := k_162 zcX6_leave rfl rfl rfl
theorem dX6_leave_30 : decode cX6_leave 30 = .ok (.aload_n 0, 1) := k_42 zcX6_leave rfl rfl
theorem dX6_leave_31 : decode cX6_leave 31 = .ok (.iload_n 1, 1) := k_27 zcX6_leave rfl rfl
theorem dX6_leave_32 : decode cX6_leave 32 = .ok (.invokevirtual 233, 3) := k_182 zcX6_leave rfl rfl rfl
theorem dX6_leave_35 : decode cX6_leave 35 = .ok (.iinc 3 1, 3) := k_132 zcX6_leave rfl rfl rfl rfl
theorem dX6_leave_38 : decode cX6_leave 38 = .ok (.goto (-13), 3) := k_167 zcX6_leave rfl rfl rfl
theorem dX6_leave_41 : decode cX6_leave 41 = .ok (.aload_n 0, 1) := k_42 zcX6_leave rfl rfl
theorem dX6_leave_42 : decode cX6_leave 42 = .ok (.iload_n 1, 1) := k_27 zcX6_leave rfl rfl
theorem dX6_leave_43 : decode cX6_leave 43 = .ok (.invokevirtual 116, 3) := k_182 zcX6_leave rfl rfl rfl
theorem dX6_leave_46 : decode cX6_leave 46 = .ok (.ireturn, 1) := k_172 zcX6_leave rfl rfl
theorem dX6_until_0 : decode cX6_until 0 = .ok (.aload_n 0, 1) := k_42 zcX6_until rfl rfl
theorem dX6_until_1 : decode cX6_until 1 = .ok (.iload_n 1, 1) := k_27 zcX6_until rfl rfl
theorem dX6_until_2 : decode cX6_until 2 = .ok (.invokevirtual 124, 3) := k_182 zcX6_until rfl rfl rfl
theorem dX6_until_5 : decode cX6_until 5 = .ok (.ifCond .ne 5, 3) := k_154 zcX6_until rfl rfl rfl
theorem dX6_until_8 : decode cX6_until 8 = .ok (.iconst (-1), 1) := k_2 zcX6_until rfl rfl
theorem dX6_until_9 : decode cX6_until 9 = .ok (.ireturn, 1) := k_172 zcX6_until rfl rfl
theorem dX6_until_10 : decode cX6_until 10 = .ok (.aload_n 0, 1) := k_42 zcX6_until rfl rfl
theorem dX6_until_11 : decode cX6_until 11 = .ok (.iload_n 1, 1) := k_27 zcX6_until rfl rfl
theorem dX6_until_12 : decode cX6_until 12 = .ok (.iload_n 2, 1) := k_28 zcX6_until rfl rfl
theorem dX6_until_13 : decode cX6_until 13 = .ok (.invokevirtual 224, 3) := k_182 zcX6_until rfl rfl rfl
theorem dX6_until_16 : decode cX6_until 16 = .ok (.istore_n 3, 1) := k_62 zcX6_until rfl rfl
theorem dX6_until_17 : decode cX6_until 17 = .ok (.iconst 0, 1) := k_3 zcX6_until rfl rfl
theorem dX6_until_18 : decode cX6_until 18 = .ok (.istore 4, 2) := k_54 zcX6_until rfl rfl rfl
theorem dX6_until_20 : decode cX6_until 20 = .ok (.iload 4, 2) := k_21 zcX6_until rfl rfl rfl
theorem dX6_until_22 : decode cX6_until 22 = .ok (.iload_n 3, 1) := k_29 zcX6_until rfl rfl
theorem dX6_until_23 : decode cX6_until 23 = .ok (.if_icmp .ge 14, 3) := k_162 zcX6_until rfl rfl rfl
theorem dX6_until_26 : decode cX6_until 26 = .ok (.aload_n 0, 1) := k_42 zcX6_until rfl rfl
theorem dX6_until_27 : decode cX6_until 27 = .ok (.iload_n 1, 1) := k_27 zcX6_until rfl rfl
theorem dX6_until_28 : decode cX6_until 28 = .ok (.invokevirtual 233, 3) := k_182 zcX6_until rfl rfl rfl
theorem dX6_until_31 : decode cX6_until 31 = .ok (.iinc 4 1, 3) := k_132 zcX6_until rfl rfl rfl rfl
theorem dX6_until_34 : decode cX6_until 34 = .ok (.goto (-14), 3) := k_167 zcX6_until rfl rfl rfl
theorem dX6_until_37 : decode cX6_until 37 = .ok (.iload_n 3, 1) := k_29 zcX6_until rfl rfl
theorem dX6_until_38 : decode cX6_until 38 = .ok (.ireturn, 1) := k_172 zcX6_until rfl rfl
theorem dX6_isEvent_0 : decode cX6_isEvent 0 = .ok (.aload_n 0, 1) := k_42 zcX6_isEvent rfl rfl
theorem dX6_isEvent_1 : decode cX6_isEvent 1 = .ok (.iload_n 1, 1) := k_27 zcX6_isEvent rfl rfl
theorem dX6_isEvent_2 : decode cX6_isEvent 2 = .ok (.invokevirtual 124, 3) := k_182 zcX6_isEvent rfl rfl rfl
theorem dX6_isEvent_5 : decode cX6_isEvent 5 = .ok (.ifCond .eq 22, 3) := k_153 zcX6_isEvent rfl rfl rfl
theorem dX6_isEvent_8 : decode cX6_isEvent 8 = .ok (.iload_n 2, 1) := k_28 zcX6_isEvent rfl rfl
theorem dX6_isEvent_9 : decode cX6_isEvent 9 = .ok (.iconst 0, 1) := k_3 zcX6_isEvent rfl rfl
theorem dX6_isEvent_10 : decode cX6_isEvent 10 = .ok (.aload_n 0, 1) := k_42 zcX6_isEvent rfl rfl
theorem dX6_isEvent_11 : decode cX6_isEvent 11 = .ok (.iload_n 1, 1) := k_27 zcX6_isEvent rfl rfl
theorem dX6_isEvent_12 : decode cX6_isEvent 12 = .ok (.invokevirtual 116, 3) := k_182 zcX6_isEvent rfl rfl rfl
theorem dX6_isEvent_15 : decode cX6_isEvent 15 = .ok (.iconst 1, 1) := k_4 zcX6_isEvent rfl rfl
theorem dX6_isEvent_16 : decode cX6_isEvent 16 = .ok (.isub, 1) := k_100 zcX6_isEvent rfl rfl
theorem dX6_isEvent_17 : decode cX6_isEvent 17 = .ok (.invokestatic 76, 3) := k_184 zcX6_isEvent rfl rfl rfl
theorem dX6_isEvent_20 : decode cX6_isEvent 20 = .ok (.ifCond .eq 7, 3) := k_153 zcX6_isEvent rfl rfl rfl
theorem dX6_isEvent_23 : decode cX6_isEvent 23 = .ok (.iconst 1, 1) := k_4 zcX6_isEvent rfl rfl
theorem dX6_isEvent_24 : decode cX6_isEvent 24 = .ok (.goto 4, 3) := k_167 zcX6_isEvent rfl rfl rfl
theorem dX6_isEvent_27 : decode cX6_isEvent 27 = .ok (.iconst 0, 1) := k_3 zcX6_isEvent rfl rfl
theorem dX6_isEvent_28 : decode cX6_isEvent 28 = .ok (.ireturn, 1) := k_172 zcX6_isEvent rfl rfl
theorem dX6_take_0 : decode cX6_take 0 = .ok (.aload_n 0, 1) := k_42 zcX6_take rfl rfl
theorem dX6_take_1 : decode cX6_take 1 = .ok (.iload_n 1, 1) := k_27 zcX6_take rfl rfl
theorem dX6_take_2 : decode cX6_take 2 = .ok (.iload_n 2, 1) := k_28 zcX6_take rfl rfl
theorem dX6_take_3 : decode cX6_take 3 = .ok (.invokevirtual 262, 3) := k_182 zcX6_take rfl rfl rfl
theorem dX6_take_6 : decode cX6_take 6 = .ok (.ifCond .ne 6, 3) := k_154 zcX6_take rfl rfl rfl
theorem dX6_take_9 : decode cX6_take 9 = .ok (.ldc 160, 2) := k_18 zcX6_take rfl rfl rfl
theorem dX6_take_11 : decode cX6_take 11 = .ok (.ireturn, 1) := k_172 zcX6_take rfl rfl
theorem dX6_take_12 : decode cX6_take 12 = .ok (.aload_n 0, 1) := k_42 zcX6_take rfl rfl
theorem dX6_take_13 : decode cX6_take 13 = .ok (.getfield 16, 3) := k_180 zcX6_take rfl rfl rfl
theorem dX6_take_16 : decode cX6_take 16 = .ok (.bipush 121, 2) := k_16 zcX6_take rfl rfl rfl
theorem dX6_take_18 : decode cX6_take 18 = .ok (.iload_n 1, 1) := k_27 zcX6_take rfl rfl
theorem dX6_take_19 : decode cX6_take 19 = .ok (.imul, 1) := k_104 zcX6_take rfl rfl
theorem dX6_take_20 : decode cX6_take 20 = .ok (.iload_n 2, 1) := k_28 zcX6_take rfl rfl
theorem dX6_take_21 : decode cX6_take 21 = .ok (.iadd, 1) := k_96 zcX6_take rfl rfl
theorem dX6_take_22 : decode cX6_take 22 = .ok (.iaload, 1) := k_46 zcX6_take rfl rfl
theorem dX6_take_23 : decode cX6_take 23 = .ok (.istore_n 3, 1) := k_62 zcX6_take rfl rfl
theorem dX6_take_24 : decode cX6_take 24 = .ok (.aload_n 0, 1) := k_42 zcX6_take rfl rfl
theorem dX6_take_25 : decode cX6_take 25 = .ok (.iload_n 1, 1) := k_27 zcX6_take rfl rfl
theorem dX6_take_26 : decode cX6_take 26 = .ok (.iload_n 2, 1) := k_28 zcX6_take rfl rfl
theorem dX6_take_27 : decode cX6_take 27 = .ok (.iconst 0, 1) := k_3 zcX6_take rfl rfl
theorem dX6_take_28 : decode cX6_take 28 = .ok (.invokevirtual 217, 3) := k_182 zcX6_take rfl rfl rfl
theorem dX6_take_31 : decode cX6_take 31 = .ok (.aload_n 0, 1) := k_42 zcX6_take rfl rfl
theorem dX6_take_32 : decode cX6_take 32 = .ok (.iload_n 1, 1) := k_27 zcX6_take rfl rfl
theorem dX6_take_33 : decode cX6_take 33 = .ok (.iconst 5, 1) := k_8 zcX6_take rfl rfl
theorem dX6_take_34 : decode cX6_take 34 = .ok (.iconst (-1), 1) := k_2 zcX6_take rfl rfl
theorem dX6_take_35 : decode cX6_take 35 = .ok (.invokevirtual 188, 3) := k_182 zcX6_take rfl rfl rfl
theorem dX6_take_38 : decode cX6_take 38 = .ok (.aload_n 0, 1) := k_42 zcX6_take rfl rfl
theorem dX6_take_39 : decode cX6_take 39 = .ok (.iload_n 1, 1) := k_27 zcX6_take rfl rfl
theorem dX6_take_40 : decode cX6_take 40 = .ok (.invokevirtual 227, 3) := k_182 zcX6_take rfl rfl rfl
theorem dX6_take_43 : decode cX6_take 43 = .ok (.iload_n 3, 1) := k_29 zcX6_take rfl rfl
theorem dX6_take_44 : decode cX6_take 44 = .ok (.ireturn, 1) := k_172 zcX6_take rfl rfl
theorem dX6_alter_0 : decode cX6_alter 0 = .ok (.aload_n 0, 1) := k_42 zcX6_alter rfl rfl
theorem dX6_alter_1 : decode cX6_alter 1 = .ok (.iload_n 1, 1) := k_27 zcX6_alter rfl rfl
theorem dX6_alter_2 : decode cX6_alter 2 = .ok (.iload_n 2, 1) := k_28 zcX6_alter rfl rfl
theorem dX6_alter_3 : decode cX6_alter 3 = .ok (.invokevirtual 262, 3) := k_182 zcX6_alter rfl rfl rfl
theorem dX6_alter_6 : decode cX6_alter 6 = .ok (.ifCond .eq 16, 3) := k_153 zcX6_alter rfl rfl rfl
theorem dX6_alter_9 : decode cX6_alter 9 = .ok (.iload_n 3, 1) := k_29 zcX6_alter rfl rfl
theorem dX6_alter_10 : decode cX6_alter 10 = .ok (.sipush (-1000), 3) := k_17 zcX6_alter rfl rfl rfl
theorem dX6_alter_13 : decode cX6_alter 13 = .ok (.sipush 1000, 3) := k_17 zcX6_alter rfl rfl rfl
theorem dX6_alter_16 : decode cX6_alter 16 = .ok (.invokestatic 76, 3) := k_184 zcX6_alter rfl rfl rfl
theorem dX6_alter_19 : decode cX6_alter 19 = .ok (.ifCond .ne 5, 3) := k_154 zcX6_alter rfl rfl rfl
theorem dX6_alter_22 : decode cX6_alter 22 = .ok (.iconst 0, 1) := k_3 zcX6_alter rfl rfl
theorem dX6_alter_23 : decode cX6_alter 23 = .ok (.ireturn, 1) := k_172 zcX6_alter rfl rfl
theorem dX6_alter_24 : decode cX6_alter 24 = .ok (.aload_n 0, 1) := k_42 zcX6_alter rfl rfl
theorem dX6_alter_25 : decode cX6_alter 25 = .ok (.getfield 16, 3) := k_180 zcX6_alter rfl rfl rfl
theorem dX6_alter_28 : decode cX6_alter 28 = .ok (.bipush 121, 2) := k_16 zcX6_alter rfl rfl rfl
theorem dX6_alter_30 : decode cX6_alter 30 = .ok (.iload_n 1, 1) := k_27 zcX6_alter rfl rfl
theorem dX6_alter_31 : decode cX6_alter 31 = .ok (.imul, 1) := k_104 zcX6_alter rfl rfl
theorem dX6_alter_32 : decode cX6_alter 32 = .ok (.iload_n 2, 1) := k_28 zcX6_alter rfl rfl
theorem dX6_alter_33 : decode cX6_alter 33 = .ok (.iadd, 1) := k_96 zcX6_alter rfl rfl
theorem dX6_alter_34 : decode cX6_alter 34 = .ok (.iload_n 3, 1) := k_29 zcX6_alter rfl rfl
theorem dX6_alter_35 : decode cX6_alter 35 = .ok (.iastore, 1) := k_79 zcX6_alter rfl rfl
theorem dX6_alter_36 : decode cX6_alter 36 = .ok (.aload_n 0, 1) := k_42 zcX6_alter rfl rfl
theorem dX6_alter_37 : decode cX6_alter 37 = .ok (.iload_n 1, 1) := k_27 zcX6_alter rfl rfl
theorem dX6_alter_38 : decode cX6_alter 38 = .ok (.invokevirtual 227, 3) := k_182 zcX6_alter rfl rfl rfl
theorem dX6_alter_41 : decode cX6_alter 41 = .ok (.iconst 1, 1) := k_4 zcX6_alter rfl rfl
theorem dX6_alter_42 : decode cX6_alter 42 = .ok (.ireturn, 1) := k_172 zcX6_alter rfl rfl
theorem dX6_event_0 : decode cX6_event 0 = .ok (.aload_n 0, 1) := k_42 zcX6_event rfl rfl
theorem dX6_event_1 : decode cX6_event 1 = .ok (.iload_n 1, 1) := k_27 zcX6_event rfl rfl
theorem dX6_event_2 : decode cX6_event 2 = .ok (.iload_n 2, 1) := k_28 zcX6_event rfl rfl
theorem dX6_event_3 : decode cX6_event 3 = .ok (.invokevirtual 262, 3) := k_182 zcX6_event rfl rfl rfl
theorem dX6_event_6 : decode cX6_event 6 = .ok (.ifCond .ne 6, 3) := k_154 zcX6_event rfl rfl rfl
theorem dX6_event_9 : decode cX6_event 9 = .ok (.ldc 160, 2) := k_18 zcX6_event rfl rfl rfl
theorem dX6_event_11 : decode cX6_event 11 = .ok (.ireturn, 1) := k_172 zcX6_event rfl rfl
theorem dX6_event_12 : decode cX6_event 12 = .ok (.iload_n 3, 1) := k_29 zcX6_event rfl rfl
theorem dX6_event_13 : decode cX6_event 13 = .ok (.tableswitch 63 0 2 #[27, 39, 51], 27) := by decide +kernel
theorem dX6_event_40 : decode cX6_event 40 = .ok (.aload_n 0, 1) := k_42 zcX6_event rfl rfl
theorem dX6_event_41 : decode cX6_event 41 = .ok (.getfield 13, 3) := k_180 zcX6_event rfl rfl rfl
theorem dX6_event_44 : decode cX6_event 44 = .ok (.bipush 121, 2) := k_16 zcX6_event rfl rfl rfl
theorem dX6_event_46 : decode cX6_event 46 = .ok (.iload_n 1, 1) := k_27 zcX6_event rfl rfl
theorem dX6_event_47 : decode cX6_event 47 = .ok (.imul, 1) := k_104 zcX6_event rfl rfl
theorem dX6_event_48 : decode cX6_event 48 = .ok (.iload_n 2, 1) := k_28 zcX6_event rfl rfl
theorem dX6_event_49 : decode cX6_event 49 = .ok (.iadd, 1) := k_96 zcX6_event rfl rfl
theorem dX6_event_50 : decode cX6_event 50 = .ok (.iaload, 1) := k_46 zcX6_event rfl rfl
theorem dX6_event_51 : decode cX6_event 51 = .ok (.ireturn, 1) := k_172 zcX6_event rfl rfl
theorem dX6_event_52 : decode cX6_event 52 = .ok (.aload_n 0, 1) := k_42 zcX6_event rfl rfl
theorem dX6_event_53 : decode cX6_event 53 = .ok (.getfield 16, 3) := k_180 zcX6_event rfl rfl rfl
theorem dX6_event_56 : decode cX6_event 56 = .ok (.bipush 121, 2) := k_16 zcX6_event rfl rfl rfl
theorem dX6_event_58 : decode cX6_event 58 = .ok (.iload_n 1, 1) := k_27 zcX6_event rfl rfl
theorem dX6_event_59 : decode cX6_event 59 = .ok (.imul, 1) := k_104 zcX6_event rfl rfl
theorem dX6_event_60 : decode cX6_event 60 = .ok (.iload_n 2, 1) := k_28 zcX6_event rfl rfl
theorem dX6_event_61 : decode cX6_event 61 = .ok (.iadd, 1) := k_96 zcX6_event rfl rfl
theorem dX6_event_62 : decode cX6_event 62 = .ok (.iaload, 1) := k_46 zcX6_event rfl rfl
theorem dX6_event_63 : decode cX6_event 63 = .ok (.ireturn, 1) := k_172 zcX6_event rfl rfl
theorem dX6_event_64 : decode cX6_event 64 = .ok (.aload_n 0, 1) := k_42 zcX6_event rfl rfl
theorem dX6_event_65 : decode cX6_event 65 = .ok (.getfield 19, 3) := k_180 zcX6_event rfl rfl rfl
theorem dX6_event_68 : decode cX6_event 68 = .ok (.bipush 121, 2) := k_16 zcX6_event rfl rfl rfl
theorem dX6_event_70 : decode cX6_event 70 = .ok (.iload_n 1, 1) := k_27 zcX6_event rfl rfl
theorem dX6_event_71 : decode cX6_event 71 = .ok (.imul, 1) := k_104 zcX6_event rfl rfl
theorem dX6_event_72 : decode cX6_event 72 = .ok (.iload_n 2, 1) := k_28 zcX6_event rfl rfl
theorem dX6_event_73 : decode cX6_event 73 = .ok (.iadd, 1) := k_96 zcX6_event rfl rfl
theorem dX6_event_74 : decode cX6_event 74 = .ok (.iaload, 1) := k_46 zcX6_event rfl rfl
theorem dX6_event_75 : decode cX6_event 75 = .ok (.ireturn, 1) := k_172 zcX6_event rfl rfl
theorem dX6_event_76 : decode cX6_event 76 = .ok (.ldc 160, 2) := k_18 zcX6_event rfl rfl rfl
theorem dX6_event_78 : decode cX6_event 78 = .ok (.ireturn, 1) := k_172 zcX6_event rfl rfl
theorem dX6_comesFrom_0 : decode cX6_comesFrom 0 = .ok (.aload_n 0, 1) := k_42 zcX6_comesFrom rfl rfl
theorem dX6_comesFrom_1 : decode cX6_comesFrom 1 = .ok (.invokevirtual 113, 3) := k_182 zcX6_comesFrom rfl rfl rfl
theorem dX6_comesFrom_4 : decode cX6_comesFrom 4 = .ok (.aload_n 0, 1) := k_42 zcX6_comesFrom rfl rfl
theorem dX6_comesFrom_5 : decode cX6_comesFrom 5 = .ok (.iload_n 1, 1) := k_27 zcX6_comesFrom rfl rfl
theorem dX6_comesFrom_6 : decode cX6_comesFrom 6 = .ok (.iload_n 2, 1) := k_28 zcX6_comesFrom rfl rfl
theorem dX6_comesFrom_7 : decode cX6_comesFrom 7 = .ok (.iload_n 3, 1) := k_29 zcX6_comesFrom rfl rfl
theorem dX6_comesFrom_8 : decode cX6_comesFrom 8 = .ok (.invokevirtual 120, 3) := k_182 zcX6_comesFrom rfl rfl rfl
theorem dX6_comesFrom_11 : decode cX6_comesFrom 11 = .ok (.aload_n 0, 1) := k_42 zcX6_comesFrom rfl rfl
theorem dX6_comesFrom_12 : decode cX6_comesFrom 12 = .ok (.aload_n 0, 1) := k_42 zcX6_comesFrom rfl rfl
theorem dX6_comesFrom_13 : decode cX6_comesFrom 13 = .ok (.iload_n 1, 1) := k_27 zcX6_comesFrom rfl rfl
theorem dX6_comesFrom_14 : decode cX6_comesFrom 14 = .ok (.iconst 1, 1) := k_4 zcX6_comesFrom rfl rfl
theorem dX6_comesFrom_15 : decode cX6_comesFrom 15 = .ok (.invokevirtual 80, 3) := k_182 zcX6_comesFrom rfl rfl rfl
theorem dX6_comesFrom_18 : decode cX6_comesFrom 18 = .ok (.iload 4, 2) := k_21 zcX6_comesFrom rfl rfl rfl
theorem dX6_comesFrom_20 : decode cX6_comesFrom 20 = .ok (.invokevirtual 197, 3) := k_182 zcX6_comesFrom rfl rfl rfl
theorem dX6_comesFrom_23 : decode cX6_comesFrom 23 = .ok (.ireturn, 1) := k_172 zcX6_comesFrom rfl rfl
theorem dX6_total_0 : decode cX6_total 0 = .ok (.aload_n 0, 1) := k_42 zcX6_total rfl rfl
theorem dX6_total_1 : decode cX6_total 1 = .ok (.iload_n 1, 1) := k_27 zcX6_total rfl rfl
theorem dX6_total_2 : decode cX6_total 2 = .ok (.iload_n 2, 1) := k_28 zcX6_total rfl rfl
theorem dX6_total_3 : decode cX6_total 3 = .ok (.invokevirtual 207, 3) := k_182 zcX6_total rfl rfl rfl
theorem dX6_total_6 : decode cX6_total 6 = .ok (.ifCond .eq 20, 3) := k_153 zcX6_total rfl rfl rfl
theorem dX6_total_9 : decode cX6_total 9 = .ok (.aload_n 0, 1) := k_42 zcX6_total rfl rfl
theorem dX6_total_10 : decode cX6_total 10 = .ok (.iload_n 1, 1) := k_27 zcX6_total rfl rfl
theorem dX6_total_11 : decode cX6_total 11 = .ok (.iconst 0, 1) := k_3 zcX6_total rfl rfl
theorem dX6_total_12 : decode cX6_total 12 = .ok (.aload_n 0, 1) := k_42 zcX6_total rfl rfl
theorem dX6_total_13 : decode cX6_total 13 = .ok (.iload_n 1, 1) := k_27 zcX6_total rfl rfl
theorem dX6_total_14 : decode cX6_total 14 = .ok (.invokevirtual 116, 3) := k_182 zcX6_total rfl rfl rfl
theorem dX6_total_17 : decode cX6_total 17 = .ok (.iconst 1, 1) := k_4 zcX6_total rfl rfl
theorem dX6_total_18 : decode cX6_total 18 = .ok (.isub, 1) := k_100 zcX6_total rfl rfl
theorem dX6_total_19 : decode cX6_total 19 = .ok (.iload_n 2, 1) := k_28 zcX6_total rfl rfl
theorem dX6_total_20 : decode cX6_total 20 = .ok (.invokevirtual 243, 3) := k_182 zcX6_total rfl rfl rfl
theorem dX6_total_23 : decode cX6_total 23 = .ok (.goto 5, 3) := k_167 zcX6_total rfl rfl rfl
theorem dX6_total_26 : decode cX6_total 26 = .ok (.ldc 160, 2) := k_18 zcX6_total rfl rfl rfl
theorem dX6_total_28 : decode cX6_total 28 = .ok (.ireturn, 1) := k_172 zcX6_total rfl rfl
theorem dX6_part_0 : decode cX6_part 0 = .ok (.aload_n 0, 1) := k_42 zcX6_part rfl rfl
theorem dX6_part_1 : decode cX6_part 1 = .ok (.iload_n 1, 1) := k_27 zcX6_part rfl rfl
theorem dX6_part_2 : decode cX6_part 2 = .ok (.iload 4, 2) := k_21 zcX6_part rfl rfl rfl
theorem dX6_part_4 : decode cX6_part 4 = .ok (.invokevirtual 207, 3) := k_182 zcX6_part rfl rfl rfl
theorem dX6_part_7 : decode cX6_part 7 = .ok (.ifCond .eq 26, 3) := k_153 zcX6_part rfl rfl rfl
theorem dX6_part_10 : decode cX6_part 10 = .ok (.aload_n 0, 1) := k_42 zcX6_part rfl rfl
theorem dX6_part_11 : decode cX6_part 11 = .ok (.iload_n 1, 1) := k_27 zcX6_part rfl rfl
theorem dX6_part_12 : decode cX6_part 12 = .ok (.iload_n 2, 1) := k_28 zcX6_part rfl rfl
theorem dX6_part_13 : decode cX6_part 13 = .ok (.invokevirtual 262, 3) := k_182 zcX6_part rfl rfl rfl
theorem dX6_part_16 : decode cX6_part 16 = .ok (.ifCond .eq 17, 3) := k_153 zcX6_part rfl rfl rfl
theorem dX6_part_19 : decode cX6_part 19 = .ok (.aload_n 0, 1) := k_42 zcX6_part rfl rfl
theorem dX6_part_20 : decode cX6_part 20 = .ok (.iload_n 1, 1) := k_27 zcX6_part rfl rfl
theorem dX6_part_21 : decode cX6_part 21 = .ok (.iload_n 3, 1) := k_29 zcX6_part rfl rfl
theorem dX6_part_22 : decode cX6_part 22 = .ok (.invokevirtual 262, 3) := k_182 zcX6_part rfl rfl rfl
theorem dX6_part_25 : decode cX6_part 25 = .ok (.ifCond .eq 8, 3) := k_153 zcX6_part rfl rfl rfl
theorem dX6_part_28 : decode cX6_part 28 = .ok (.iload_n 2, 1) := k_28 zcX6_part rfl rfl
theorem dX6_part_29 : decode cX6_part 29 = .ok (.iload_n 3, 1) := k_29 zcX6_part rfl rfl
theorem dX6_part_30 : decode cX6_part 30 = .ok (.if_icmp .le 6, 3) := k_164 zcX6_part rfl rfl rfl
theorem dX6_part_33 : decode cX6_part 33 = .ok (.ldc 160, 2) := k_18 zcX6_part rfl rfl rfl
theorem dX6_part_35 : decode cX6_part 35 = .ok (.ireturn, 1) := k_172 zcX6_part rfl rfl
theorem dX6_part_36 : decode cX6_part 36 = .ok (.aload_n 0, 1) := k_42 zcX6_part rfl rfl
theorem dX6_part_37 : decode cX6_part 37 = .ok (.iload_n 1, 1) := k_27 zcX6_part rfl rfl
theorem dX6_part_38 : decode cX6_part 38 = .ok (.iload_n 2, 1) := k_28 zcX6_part rfl rfl
theorem dX6_part_39 : decode cX6_part 39 = .ok (.iload_n 3, 1) := k_29 zcX6_part rfl rfl
theorem dX6_part_40 : decode cX6_part 40 = .ok (.iload 4, 2) := k_21 zcX6_part rfl rfl rfl
theorem dX6_part_42 : decode cX6_part 42 = .ok (.invokevirtual 243, 3) := k_182 zcX6_part rfl rfl rfl
theorem dX6_part_45 : decode cX6_part 45 = .ok (.ireturn, 1) := k_172 zcX6_part rfl rfl
theorem dX6_aheadOf_0 : decode cX6_aheadOf 0 = .ok (.iload_n 2, 1) := k_28 zcX6_aheadOf rfl rfl
theorem dX6_aheadOf_1 : decode cX6_aheadOf 1 = .ok (.ldc 160, 2) := k_18 zcX6_aheadOf rfl rfl rfl
theorem dX6_aheadOf_3 : decode cX6_aheadOf 3 = .ok (.if_icmp .ne 7, 3) := k_160 zcX6_aheadOf rfl rfl rfl
theorem dX6_aheadOf_6 : decode cX6_aheadOf 6 = .ok (.iconst 0, 1) := k_3 zcX6_aheadOf rfl rfl
theorem dX6_aheadOf_7 : decode cX6_aheadOf 7 = .ok (.goto 11, 3) := k_167 zcX6_aheadOf rfl rfl rfl
theorem dX6_aheadOf_10 : decode cX6_aheadOf 10 = .ok (.aload_n 0, 1) := k_42 zcX6_aheadOf rfl rfl
theorem dX6_aheadOf_11 : decode cX6_aheadOf 11 = .ok (.iload_n 1, 1) := k_27 zcX6_aheadOf rfl rfl
theorem dX6_aheadOf_12 : decode cX6_aheadOf 12 = .ok (.iload_n 2, 1) := k_28 zcX6_aheadOf rfl rfl
theorem dX6_aheadOf_13 : decode cX6_aheadOf 13 = .ok (.iconst 1, 1) := k_4 zcX6_aheadOf rfl rfl
theorem dX6_aheadOf_14 : decode cX6_aheadOf 14 = .ok (.isub, 1) := k_100 zcX6_aheadOf rfl rfl
theorem dX6_aheadOf_15 : decode cX6_aheadOf 15 = .ok (.invokevirtual 224, 3) := k_182 zcX6_aheadOf rfl rfl rfl
theorem dX6_aheadOf_18 : decode cX6_aheadOf 18 = .ok (.ireturn, 1) := k_172 zcX6_aheadOf rfl rfl
theorem dX6_during_0 : decode cX6_during 0 = .ok (.aload_n 0, 1) := k_42 zcX6_during rfl rfl
theorem dX6_during_1 : decode cX6_during 1 = .ok (.iload_n 1, 1) := k_27 zcX6_during rfl rfl
theorem dX6_during_2 : decode cX6_during 2 = .ok (.iload 4, 2) := k_21 zcX6_during rfl rfl rfl
theorem dX6_during_4 : decode cX6_during 4 = .ok (.invokevirtual 207, 3) := k_182 zcX6_during rfl rfl rfl
theorem dX6_during_7 : decode cX6_during 7 = .ok (.ifCond .ne 6, 3) := k_154 zcX6_during rfl rfl rfl
theorem dX6_during_10 : decode cX6_during 10 = .ok (.ldc 160, 2) := k_18 zcX6_during rfl rfl rfl
theorem dX6_during_12 : decode cX6_during 12 = .ok (.ireturn, 1) := k_172 zcX6_during rfl rfl
theorem dX6_during_13 : decode cX6_during 13 = .ok (.aload_n 0, 1) := k_42 zcX6_during rfl rfl
theorem dX6_during_14 : decode cX6_during 14 = .ok (.iload_n 1, 1) := k_27 zcX6_during rfl rfl
theorem dX6_during_15 : decode cX6_during 15 = .ok (.iload_n 2, 1) := k_28 zcX6_during rfl rfl
theorem dX6_during_16 : decode cX6_during 16 = .ok (.invokevirtual 265, 3) := k_182 zcX6_during rfl rfl rfl
theorem dX6_during_19 : decode cX6_during 19 = .ok (.istore 5, 2) := k_54 zcX6_during rfl rfl rfl
theorem dX6_during_21 : decode cX6_during 21 = .ok (.aload_n 0, 1) := k_42 zcX6_during rfl rfl
theorem dX6_during_22 : decode cX6_during 22 = .ok (.iload_n 1, 1) := k_27 zcX6_during rfl rfl
theorem dX6_during_23 : decode cX6_during 23 = .ok (.iload_n 3, 1) := k_29 zcX6_during rfl rfl
theorem dX6_during_24 : decode cX6_during 24 = .ok (.invokevirtual 224, 3) := k_182 zcX6_during rfl rfl rfl
theorem dX6_during_27 : decode cX6_during 27 = .ok (.iconst 1, 1) := k_4 zcX6_during rfl rfl
theorem dX6_during_28 : decode cX6_during 28 = .ok (.isub, 1) := k_100 zcX6_during rfl rfl
theorem dX6_during_29 : decode cX6_during 29 = .ok (.istore 6, 2) := k_54 zcX6_during rfl rfl rfl
theorem dX6_during_31 : decode cX6_during 31 = .ok (.aload_n 0, 1) := k_42 zcX6_during rfl rfl
theorem dX6_during_32 : decode cX6_during 32 = .ok (.iload_n 1, 1) := k_27 zcX6_during rfl rfl
theorem dX6_during_33 : decode cX6_during 33 = .ok (.iload 5, 2) := k_21 zcX6_during rfl rfl rfl
theorem dX6_during_35 : decode cX6_during 35 = .ok (.iload 6, 2) := k_21 zcX6_during rfl rfl rfl
theorem dX6_during_37 : decode cX6_during 37 = .ok (.iload 4, 2) := k_21 zcX6_during rfl rfl rfl
theorem dX6_during_39 : decode cX6_during 39 = .ok (.invokevirtual 243, 3) := k_182 zcX6_during rfl rfl rfl
theorem dX6_during_42 : decode cX6_during 42 = .ok (.ireturn, 1) := k_172 zcX6_during rfl rfl
theorem dX6_many_0 : decode cX6_many 0 = .ok (.aload_n 0, 1) := k_42 zcX6_many rfl rfl
theorem dX6_many_1 : decode cX6_many 1 = .ok (.iload_n 1, 1) := k_27 zcX6_many rfl rfl
theorem dX6_many_2 : decode cX6_many 2 = .ok (.invokevirtual 124, 3) := k_182 zcX6_many rfl rfl rfl
theorem dX6_many_5 : decode cX6_many 5 = .ok (.ifCond .ne 5, 3) := k_154 zcX6_many rfl rfl rfl
theorem dX6_many_8 : decode cX6_many 8 = .ok (.iconst (-1), 1) := k_2 zcX6_many rfl rfl
theorem dX6_many_9 : decode cX6_many 9 = .ok (.ireturn, 1) := k_172 zcX6_many rfl rfl
theorem dX6_many_10 : decode cX6_many 10 = .ok (.aload_n 0, 1) := k_42 zcX6_many rfl rfl
theorem dX6_many_11 : decode cX6_many 11 = .ok (.iload_n 1, 1) := k_27 zcX6_many rfl rfl
theorem dX6_many_12 : decode cX6_many 12 = .ok (.iload_n 3, 1) := k_29 zcX6_many rfl rfl
theorem dX6_many_13 : decode cX6_many 13 = .ok (.invokevirtual 224, 3) := k_182 zcX6_many rfl rfl rfl
theorem dX6_many_16 : decode cX6_many 16 = .ok (.aload_n 0, 1) := k_42 zcX6_many rfl rfl
theorem dX6_many_17 : decode cX6_many 17 = .ok (.iload_n 1, 1) := k_27 zcX6_many rfl rfl
theorem dX6_many_18 : decode cX6_many 18 = .ok (.iload_n 2, 1) := k_28 zcX6_many rfl rfl
theorem dX6_many_19 : decode cX6_many 19 = .ok (.invokevirtual 265, 3) := k_182 zcX6_many rfl rfl rfl
theorem dX6_many_22 : decode cX6_many 22 = .ok (.isub, 1) := k_100 zcX6_many rfl rfl
theorem dX6_many_23 : decode cX6_many 23 = .ok (.istore 4, 2) := k_54 zcX6_many rfl rfl rfl
theorem dX6_many_25 : decode cX6_many 25 = .ok (.iload 4, 2) := k_21 zcX6_many rfl rfl rfl
theorem dX6_many_27 : decode cX6_many 27 = .ok (.ifCond .ge 7, 3) := k_156 zcX6_many rfl rfl rfl
theorem dX6_many_30 : decode cX6_many 30 = .ok (.iconst 0, 1) := k_3 zcX6_many rfl rfl
theorem dX6_many_31 : decode cX6_many 31 = .ok (.goto 5, 3) := k_167 zcX6_many rfl rfl rfl
theorem dX6_many_34 : decode cX6_many 34 = .ok (.iload 4, 2) := k_21 zcX6_many rfl rfl rfl
theorem dX6_many_36 : decode cX6_many 36 = .ok (.ireturn, 1) := k_172 zcX6_many rfl rfl
theorem dX6_reach_0 : decode cX6_reach 0 = .ok (.aload_n 0, 1) := k_42 zcX6_reach rfl rfl
theorem dX6_reach_1 : decode cX6_reach 1 = .ok (.iload_n 1, 1) := k_27 zcX6_reach rfl rfl
theorem dX6_reach_2 : decode cX6_reach 2 = .ok (.iload_n 2, 1) := k_28 zcX6_reach rfl rfl
theorem dX6_reach_3 : decode cX6_reach 3 = .ok (.invokevirtual 207, 3) := k_182 zcX6_reach rfl rfl rfl
theorem dX6_reach_6 : decode cX6_reach 6 = .ok (.ifCond .ne 5, 3) := k_154 zcX6_reach rfl rfl rfl
theorem dX6_reach_9 : decode cX6_reach 9 = .ok (.iconst (-1), 1) := k_2 zcX6_reach rfl rfl
theorem dX6_reach_10 : decode cX6_reach 10 = .ok (.ireturn, 1) := k_172 zcX6_reach rfl rfl
theorem dX6_reach_11 : decode cX6_reach 11 = .ok (.iconst 1, 1) := k_4 zcX6_reach rfl rfl
theorem dX6_reach_12 : decode cX6_reach 12 = .ok (.istore 4, 2) := k_54 zcX6_reach rfl rfl rfl
theorem dX6_reach_14 : decode cX6_reach 14 = .ok (.iload 4, 2) := k_21 zcX6_reach rfl rfl rfl
theorem dX6_reach_16 : decode cX6_reach 16 = .ok (.aload_n 0, 1) := k_42 zcX6_reach rfl rfl
theorem dX6_reach_17 : decode cX6_reach 17 = .ok (.iload_n 1, 1) := k_27 zcX6_reach rfl rfl
theorem dX6_reach_18 : decode cX6_reach 18 = .ok (.invokevirtual 116, 3) := k_182 zcX6_reach rfl rfl rfl
theorem dX6_reach_21 : decode cX6_reach 21 = .ok (.if_icmp .gt 30, 3) := k_163 zcX6_reach rfl rfl rfl
theorem dX6_reach_24 : decode cX6_reach 24 = .ok (.aload_n 0, 1) := k_42 zcX6_reach rfl rfl
theorem dX6_reach_25 : decode cX6_reach 25 = .ok (.iload_n 1, 1) := k_27 zcX6_reach rfl rfl
theorem dX6_reach_26 : decode cX6_reach 26 = .ok (.iconst 0, 1) := k_3 zcX6_reach rfl rfl
theorem dX6_reach_27 : decode cX6_reach 27 = .ok (.iload 4, 2) := k_21 zcX6_reach rfl rfl rfl
theorem dX6_reach_29 : decode cX6_reach 29 = .ok (.iconst 1, 1) := k_4 zcX6_reach rfl rfl
theorem dX6_reach_30 : decode cX6_reach 30 = .ok (.isub, 1) := k_100 zcX6_reach rfl rfl
theorem dX6_reach_31 : decode cX6_reach 31 = .ok (.iload_n 2, 1) := k_28 zcX6_reach rfl rfl
theorem dX6_reach_32 : decode cX6_reach 32 = .ok (.invokevirtual 243, 3) := k_182 zcX6_reach rfl rfl rfl
theorem dX6_reach_35 : decode cX6_reach 35 = .ok (.iload_n 3, 1) := k_29 zcX6_reach rfl rfl
theorem dX6_reach_36 : decode cX6_reach 36 = .ok (.invokestatic 200, 3) := k_184 zcX6_reach rfl rfl rfl
theorem dX6_reach_39 : decode cX6_reach 39 = .ok (.ifCond .eq 6, 3) := k_153 zcX6_reach rfl rfl rfl
theorem dX6_reach_42 : decode cX6_reach 42 = .ok (.iload 4, 2) := k_21 zcX6_reach rfl rfl rfl
theorem dX6_reach_44 : decode cX6_reach 44 = .ok (.ireturn, 1) := k_172 zcX6_reach rfl rfl
theorem dX6_reach_45 : decode cX6_reach 45 = .ok (.iinc 4 1, 3) := k_132 zcX6_reach rfl rfl rfl rfl
theorem dX6_reach_48 : decode cX6_reach 48 = .ok (.goto (-34), 3) := k_167 zcX6_reach rfl rfl rfl
theorem dX6_reach_51 : decode cX6_reach 51 = .ok (.iconst (-1), 1) := k_2 zcX6_reach rfl rfl
theorem dX6_reach_52 : decode cX6_reach 52 = .ok (.ireturn, 1) := k_172 zcX6_reach rfl rfl
theorem dX6_reachBack_0 : decode cX6_reachBack 0 = .ok (.aload_n 0, 1) := k_42 zcX6_reachBack rfl rfl
theorem dX6_reachBack_1 : decode cX6_reachBack 1 = .ok (.iload_n 1, 1) := k_27 zcX6_reachBack rfl rfl
theorem dX6_reachBack_2 : decode cX6_reachBack 2 = .ok (.iload_n 2, 1) := k_28 zcX6_reachBack rfl rfl
theorem dX6_reachBack_3 : decode cX6_reachBack 3 = .ok (.invokevirtual 207, 3) := k_182 zcX6_reachBack rfl rfl rfl
theorem dX6_reachBack_6 : decode cX6_reachBack 6 = .ok (.ifCond .ne 5, 3) := k_154 zcX6_reachBack rfl rfl rfl
theorem dX6_reachBack_9 : decode cX6_reachBack 9 = .ok (.iconst (-1), 1) := k_2 zcX6_reachBack rfl rfl
theorem dX6_reachBack_10 : decode cX6_reachBack 10 = .ok (.ireturn, 1) := k_172 zcX6_reachBack rfl rfl
theorem dX6_reachBack_11 : decode cX6_reachBack 11 = .ok (.iconst 1, 1) := k_4 zcX6_reachBack rfl rfl
theorem dX6_reachBack_12 : decode cX6_reachBack 12 = .ok (.istore 4, 2) := k_54 zcX6_reachBack rfl rfl rfl
theorem dX6_reachBack_14 : decode cX6_reachBack 14 = .ok (.iload 4, 2) := k_21 zcX6_reachBack rfl rfl rfl
theorem dX6_reachBack_16 : decode cX6_reachBack 16 = .ok (.aload_n 0, 1) := k_42 zcX6_reachBack rfl rfl
theorem dX6_reachBack_17 : decode cX6_reachBack 17 = .ok (.iload_n 1, 1) := k_27 zcX6_reachBack rfl rfl
theorem dX6_reachBack_18 : decode cX6_reachBack 18 = .ok (.invokevirtual 116, 3) := k_182 zcX6_reachBack rfl rfl rfl
theorem dX6_reachBack_21 : decode cX6_reachBack 21 = .ok (.if_icmp .gt 40, 3) := k_163 zcX6_reachBack rfl rfl rfl
theorem dX6_reachBack_24 : decode cX6_reachBack 24 = .ok (.aload_n 0, 1) := k_42 zcX6_reachBack rfl rfl
theorem dX6_reachBack_25 : decode cX6_reachBack 25 = .ok (.iload_n 1, 1) := k_27 zcX6_reachBack rfl rfl
theorem dX6_reachBack_26 : decode cX6_reachBack 26 = .ok (.aload_n 0, 1) := k_42 zcX6_reachBack rfl rfl
theorem dX6_reachBack_27 : decode cX6_reachBack 27 = .ok (.iload_n 1, 1) := k_27 zcX6_reachBack rfl rfl
theorem dX6_reachBack_28 : decode cX6_reachBack 28 = .ok (.invokevirtual 116, 3) := k_182 zcX6_reachBack rfl rfl rfl
theorem dX6_reachBack_31 : decode cX6_reachBack 31 = .ok (.iload 4, 2) := k_21 zcX6_reachBack rfl rfl rfl
theorem dX6_reachBack_33 : decode cX6_reachBack 33 = .ok (.isub, 1) := k_100 zcX6_reachBack rfl rfl
theorem dX6_reachBack_34 : decode cX6_reachBack 34 = .ok (.aload_n 0, 1) := k_42 zcX6_reachBack rfl rfl
theorem dX6_reachBack_35 : decode cX6_reachBack 35 = .ok (.iload_n 1, 1) := k_27 zcX6_reachBack rfl rfl
theorem dX6_reachBack_36 : decode cX6_reachBack 36 = .ok (.invokevirtual 116, 3) := k_182 zcX6_reachBack rfl rfl rfl
theorem dX6_reachBack_39 : decode cX6_reachBack 39 = .ok (.iconst 1, 1) := k_4 zcX6_reachBack rfl rfl
theorem dX6_reachBack_40 : decode cX6_reachBack 40 = .ok (.isub, 1) := k_100 zcX6_reachBack rfl rfl
theorem dX6_reachBack_41 : decode cX6_reachBack 41 = .ok (.iload_n 2, 1) := k_28 zcX6_reachBack rfl rfl
theorem dX6_reachBack_42 : decode cX6_reachBack 42 = .ok (.invokevirtual 243, 3) := k_182 zcX6_reachBack rfl rfl rfl
theorem dX6_reachBack_45 : decode cX6_reachBack 45 = .ok (.iload_n 3, 1) := k_29 zcX6_reachBack rfl rfl
theorem dX6_reachBack_46 : decode cX6_reachBack 46 = .ok (.invokestatic 200, 3) := k_184 zcX6_reachBack rfl rfl rfl
theorem dX6_reachBack_49 : decode cX6_reachBack 49 = .ok (.ifCond .eq 6, 3) := k_153 zcX6_reachBack rfl rfl rfl
theorem dX6_reachBack_52 : decode cX6_reachBack 52 = .ok (.iload 4, 2) := k_21 zcX6_reachBack rfl rfl rfl
theorem dX6_reachBack_54 : decode cX6_reachBack 54 = .ok (.ireturn, 1) := k_172 zcX6_reachBack rfl rfl
theorem dX6_reachBack_55 : decode cX6_reachBack 55 = .ok (.iinc 4 1, 3) := k_132 zcX6_reachBack rfl rfl rfl rfl
theorem dX6_reachBack_58 : decode cX6_reachBack 58 = .ok (.goto (-44), 3) := k_167 zcX6_reachBack rfl rfl rfl
theorem dX6_reachBack_61 : decode cX6_reachBack 61 = .ok (.iconst (-1), 1) := k_2 zcX6_reachBack rfl rfl
theorem dX6_reachBack_62 : decode cX6_reachBack 62 = .ok (.ireturn, 1) := k_172 zcX6_reachBack rfl rfl
theorem dX6_bestOf_0 : decode cX6_bestOf 0 = .ok (.aload_n 0, 1) := k_42 zcX6_bestOf rfl rfl
theorem dX6_bestOf_1 : decode cX6_bestOf 1 = .ok (.iload_n 1, 1) := k_27 zcX6_bestOf rfl rfl
theorem dX6_bestOf_2 : decode cX6_bestOf 2 = .ok (.iload_n 3, 1) := k_29 zcX6_bestOf rfl rfl
theorem dX6_bestOf_3 : decode cX6_bestOf 3 = .ok (.invokevirtual 207, 3) := k_182 zcX6_bestOf rfl rfl rfl
theorem dX6_bestOf_6 : decode cX6_bestOf 6 = .ok (.ifCond .eq 16, 3) := k_153 zcX6_bestOf rfl rfl rfl
theorem dX6_bestOf_9 : decode cX6_bestOf 9 = .ok (.iload_n 2, 1) := k_28 zcX6_bestOf rfl rfl
theorem dX6_bestOf_10 : decode cX6_bestOf 10 = .ok (.iconst 1, 1) := k_4 zcX6_bestOf rfl rfl
theorem dX6_bestOf_11 : decode cX6_bestOf 11 = .ok (.aload_n 0, 1) := k_42 zcX6_bestOf rfl rfl
theorem dX6_bestOf_12 : decode cX6_bestOf 12 = .ok (.iload_n 1, 1) := k_27 zcX6_bestOf rfl rfl
theorem dX6_bestOf_13 : decode cX6_bestOf 13 = .ok (.invokevirtual 116, 3) := k_182 zcX6_bestOf rfl rfl rfl
theorem dX6_bestOf_16 : decode cX6_bestOf 16 = .ok (.invokestatic 76, 3) := k_184 zcX6_bestOf rfl rfl rfl
theorem dX6_bestOf_19 : decode cX6_bestOf 19 = .ok (.ifCond .ne 5, 3) := k_154 zcX6_bestOf rfl rfl rfl
theorem dX6_bestOf_22 : decode cX6_bestOf 22 = .ok (.iconst (-1), 1) := k_2 zcX6_bestOf rfl rfl
theorem dX6_bestOf_23 : decode cX6_bestOf 23 = .ok (.ireturn, 1) := k_172 zcX6_bestOf rfl rfl
theorem dX6_bestOf_24 : decode cX6_bestOf 24 = .ok (.iconst 0, 1) := k_3 zcX6_bestOf rfl rfl
theorem dX6_bestOf_25 : decode cX6_bestOf 25 = .ok (.istore 4, 2) := k_54 zcX6_bestOf rfl rfl rfl
theorem dX6_bestOf_27 : decode cX6_bestOf 27 = .ok (.aload_n 0, 1) := k_42 zcX6_bestOf rfl rfl
theorem dX6_bestOf_28 : decode cX6_bestOf 28 = .ok (.iload_n 1, 1) := k_27 zcX6_bestOf rfl rfl
theorem dX6_bestOf_29 : decode cX6_bestOf 29 = .ok (.iconst 0, 1) := k_3 zcX6_bestOf rfl rfl
theorem dX6_bestOf_30 : decode cX6_bestOf 30 = .ok (.iload_n 2, 1) := k_28 zcX6_bestOf rfl rfl
theorem dX6_bestOf_31 : decode cX6_bestOf 31 = .ok (.iconst 1, 1) := k_4 zcX6_bestOf rfl rfl
theorem dX6_bestOf_32 : decode cX6_bestOf 32 = .ok (.isub, 1) := k_100 zcX6_bestOf rfl rfl
theorem dX6_bestOf_33 : decode cX6_bestOf 33 = .ok (.iload_n 3, 1) := k_29 zcX6_bestOf rfl rfl
theorem dX6_bestOf_34 : decode cX6_bestOf 34 = .ok (.invokevirtual 243, 3) := k_182 zcX6_bestOf rfl rfl rfl
theorem dX6_bestOf_37 : decode cX6_bestOf 37 = .ok (.istore 5, 2) := k_54 zcX6_bestOf rfl rfl rfl
theorem dX6_bestOf_39 : decode cX6_bestOf 39 = .ok (.iconst 1, 1) := k_4 zcX6_bestOf rfl rfl
theorem dX6_bestOf_40 : decode cX6_bestOf 40 = .ok (.istore 6, 2) := k_54 zcX6_bestOf rfl rfl rfl
theorem dX6_bestOf_42 : decode cX6_bestOf 42 = .ok (.iload 6, 2) := k_21 zcX6_bestOf rfl rfl rfl
theorem dX6_bestOf_44 : decode cX6_bestOf 44 = .ok (.iload_n 2, 1) := k_28 zcX6_bestOf rfl rfl
theorem dX6_bestOf_45 : decode cX6_bestOf 45 = .ok (.iadd, 1) := k_96 zcX6_bestOf rfl rfl
theorem dX6_bestOf_46 : decode cX6_bestOf 46 = .ok (.aload_n 0, 1) := k_42 zcX6_bestOf rfl rfl
theorem dX6_bestOf_47 : decode cX6_bestOf 47 = .ok (.iload_n 1, 1) := k_27 zcX6_bestOf rfl rfl
theorem dX6_bestOf_48 : decode cX6_bestOf 48 = .ok (.invokevirtual 116, 3) := k_182 zcX6_bestOf rfl rfl rfl
theorem dX6_bestOf_51 : decode cX6_bestOf 51 = .ok (.if_icmp .gt 43, 3) := k_163 zcX6_bestOf rfl rfl rfl
theorem dX6_bestOf_54 : decode cX6_bestOf 54 = .ok (.aload_n 0, 1) := k_42 zcX6_bestOf rfl rfl
theorem dX6_bestOf_55 : decode cX6_bestOf 55 = .ok (.iload_n 1, 1) := k_27 zcX6_bestOf rfl rfl
theorem dX6_bestOf_56 : decode cX6_bestOf 56 = .ok (.iload 6, 2) := k_21 zcX6_bestOf rfl rfl rfl
theorem dX6_bestOf_58 : decode cX6_bestOf 58 = .ok (.iload 6, 2) := k_21 zcX6_bestOf rfl rfl rfl
theorem dX6_bestOf_60 : decode cX6_bestOf 60 = .ok (.iload_n 2, 1) := k_28 zcX6_bestOf rfl rfl
theorem dX6_bestOf_61 : decode cX6_bestOf 61 = .ok (.iadd, 1) := k_96 zcX6_bestOf rfl rfl
theorem dX6_bestOf_62 : decode cX6_bestOf 62 = .ok (.iconst 1, 1) := k_4 zcX6_bestOf rfl rfl
theorem dX6_bestOf_63 : decode cX6_bestOf 63 = .ok (.isub, 1) := k_100 zcX6_bestOf rfl rfl
theorem dX6_bestOf_64 : decode cX6_bestOf 64 = .ok (.iload_n 3, 1) := k_29 zcX6_bestOf rfl rfl
theorem dX6_bestOf_65 : decode cX6_bestOf 65 = .ok (.invokevirtual 243, 3) := k_182 zcX6_bestOf rfl rfl rfl
theorem dX6_bestOf_68 : decode cX6_bestOf 68 = .ok (.istore 7, 2) := k_54 zcX6_bestOf rfl rfl rfl
theorem dX6_bestOf_70 : decode cX6_bestOf 70 = .ok (.iload 7, 2) := k_21 zcX6_bestOf rfl rfl rfl
theorem dX6_bestOf_72 : decode cX6_bestOf 72 = .ok (.iload 5, 2) := k_21 zcX6_bestOf rfl rfl rfl
theorem dX6_bestOf_74 : decode cX6_bestOf 74 = .ok (.if_icmp .gt 6, 3) := k_163 zcX6_bestOf rfl rfl rfl
theorem dX6_bestOf_77 : decode cX6_bestOf 77 = .ok (.goto 11, 3) := k_167 zcX6_bestOf rfl rfl rfl
theorem dX6_bestOf_80 : decode cX6_bestOf 80 = .ok (.iload 6, 2) := k_21 zcX6_bestOf rfl rfl rfl
theorem dX6_bestOf_82 : decode cX6_bestOf 82 = .ok (.istore 4, 2) := k_54 zcX6_bestOf rfl rfl rfl
theorem dX6_bestOf_84 : decode cX6_bestOf 84 = .ok (.iload 7, 2) := k_21 zcX6_bestOf rfl rfl rfl
theorem dX6_bestOf_86 : decode cX6_bestOf 86 = .ok (.istore 5, 2) := k_54 zcX6_bestOf rfl rfl rfl
theorem dX6_bestOf_88 : decode cX6_bestOf 88 = .ok (.iinc 6 1, 3) := k_132 zcX6_bestOf rfl rfl rfl rfl
theorem dX6_bestOf_91 : decode cX6_bestOf 91 = .ok (.goto (-49), 3) := k_167 zcX6_bestOf rfl rfl rfl
theorem dX6_bestOf_94 : decode cX6_bestOf 94 = .ok (.iload 4, 2) := k_21 zcX6_bestOf rfl rfl rfl
theorem dX6_bestOf_96 : decode cX6_bestOf 96 = .ok (.ireturn, 1) := k_172 zcX6_bestOf rfl rfl
theorem dX6_peakAt_0 : decode cX6_peakAt 0 = .ok (.aload_n 0, 1) := k_42 zcX6_peakAt rfl rfl
theorem dX6_peakAt_1 : decode cX6_peakAt 1 = .ok (.iload_n 1, 1) := k_27 zcX6_peakAt rfl rfl
theorem dX6_peakAt_2 : decode cX6_peakAt 2 = .ok (.iload_n 2, 1) := k_28 zcX6_peakAt rfl rfl
theorem dX6_peakAt_3 : decode cX6_peakAt 3 = .ok (.iload_n 3, 1) := k_29 zcX6_peakAt rfl rfl
theorem dX6_peakAt_4 : decode cX6_peakAt 4 = .ok (.invokevirtual 268, 3) := k_182 zcX6_peakAt rfl rfl rfl
theorem dX6_peakAt_7 : decode cX6_peakAt 7 = .ok (.ireturn, 1) := k_172 zcX6_peakAt rfl rfl
theorem dX6_peak_0 : decode cX6_peak 0 = .ok (.aload_n 0, 1) := k_42 zcX6_peak rfl rfl
theorem dX6_peak_1 : decode cX6_peak 1 = .ok (.iload_n 1, 1) := k_27 zcX6_peak rfl rfl
theorem dX6_peak_2 : decode cX6_peak 2 = .ok (.iload_n 2, 1) := k_28 zcX6_peak rfl rfl
theorem dX6_peak_3 : decode cX6_peak 3 = .ok (.iload_n 3, 1) := k_29 zcX6_peak rfl rfl
theorem dX6_peak_4 : decode cX6_peak 4 = .ok (.invokevirtual 268, 3) := k_182 zcX6_peak rfl rfl rfl
theorem dX6_peak_7 : decode cX6_peak 7 = .ok (.istore 4, 2) := k_54 zcX6_peak rfl rfl rfl
theorem dX6_peak_9 : decode cX6_peak 9 = .ok (.iload 4, 2) := k_21 zcX6_peak rfl rfl rfl
theorem dX6_peak_11 : decode cX6_peak 11 = .ok (.ifCond .ge 8, 3) := k_156 zcX6_peak rfl rfl rfl
theorem dX6_peak_14 : decode cX6_peak 14 = .ok (.ldc 160, 2) := k_18 zcX6_peak rfl rfl rfl
theorem dX6_peak_16 : decode cX6_peak 16 = .ok (.goto 17, 3) := k_167 zcX6_peak rfl rfl rfl
theorem dX6_peak_19 : decode cX6_peak 19 = .ok (.aload_n 0, 1) := k_42 zcX6_peak rfl rfl
theorem dX6_peak_20 : decode cX6_peak 20 = .ok (.iload_n 1, 1) := k_27 zcX6_peak rfl rfl
theorem dX6_peak_21 : decode cX6_peak 21 = .ok (.iload 4, 2) := k_21 zcX6_peak rfl rfl rfl
theorem dX6_peak_23 : decode cX6_peak 23 = .ok (.iload 4, 2) := k_21 zcX6_peak rfl rfl rfl
theorem dX6_peak_25 : decode cX6_peak 25 = .ok (.iload_n 2, 1) := k_28 zcX6_peak rfl rfl
theorem dX6_peak_26 : decode cX6_peak 26 = .ok (.iadd, 1) := k_96 zcX6_peak rfl rfl
theorem dX6_peak_27 : decode cX6_peak 27 = .ok (.iconst 1, 1) := k_4 zcX6_peak rfl rfl
theorem dX6_peak_28 : decode cX6_peak 28 = .ok (.isub, 1) := k_100 zcX6_peak rfl rfl
theorem dX6_peak_29 : decode cX6_peak 29 = .ok (.iload_n 3, 1) := k_29 zcX6_peak rfl rfl
theorem dX6_peak_30 : decode cX6_peak 30 = .ok (.invokevirtual 243, 3) := k_182 zcX6_peak rfl rfl rfl
theorem dX6_peak_33 : decode cX6_peak 33 = .ok (.ireturn, 1) := k_172 zcX6_peak rfl rfl
theorem dX6_comesWithout_0 : decode cX6_comesWithout 0 = .ok (.aload_n 0, 1) := k_42 zcX6_comesWithout rfl rfl
theorem dX6_comesWithout_1 : decode cX6_comesWithout 1 = .ok (.invokevirtual 113, 3) := k_182 zcX6_comesWithout rfl rfl rfl
theorem dX6_comesWithout_4 : decode cX6_comesWithout 4 = .ok (.aload_n 0, 1) := k_42 zcX6_comesWithout rfl rfl
theorem dX6_comesWithout_5 : decode cX6_comesWithout 5 = .ok (.iload_n 1, 1) := k_27 zcX6_comesWithout rfl rfl
theorem dX6_comesWithout_6 : decode cX6_comesWithout 6 = .ok (.iconst 0, 1) := k_3 zcX6_comesWithout rfl rfl
theorem dX6_comesWithout_7 : decode cX6_comesWithout 7 = .ok (.iload_n 2, 1) := k_28 zcX6_comesWithout rfl rfl
theorem dX6_comesWithout_8 : decode cX6_comesWithout 8 = .ok (.iconst 1, 1) := k_4 zcX6_comesWithout rfl rfl
theorem dX6_comesWithout_9 : decode cX6_comesWithout 9 = .ok (.isub, 1) := k_100 zcX6_comesWithout rfl rfl
theorem dX6_comesWithout_10 : decode cX6_comesWithout 10 = .ok (.invokevirtual 120, 3) := k_182 zcX6_comesWithout rfl rfl rfl
theorem dX6_comesWithout_13 : decode cX6_comesWithout 13 = .ok (.aload_n 0, 1) := k_42 zcX6_comesWithout rfl rfl
theorem dX6_comesWithout_14 : decode cX6_comesWithout 14 = .ok (.iload_n 1, 1) := k_27 zcX6_comesWithout rfl rfl
theorem dX6_comesWithout_15 : decode cX6_comesWithout 15 = .ok (.iload_n 2, 1) := k_28 zcX6_comesWithout rfl rfl
theorem dX6_comesWithout_16 : decode cX6_comesWithout 16 = .ok (.iconst 1, 1) := k_4 zcX6_comesWithout rfl rfl
theorem dX6_comesWithout_17 : decode cX6_comesWithout 17 = .ok (.iadd, 1) := k_96 zcX6_comesWithout rfl rfl
theorem dX6_comesWithout_18 : decode cX6_comesWithout 18 = .ok (.aload_n 0, 1) := k_42 zcX6_comesWithout rfl rfl
theorem dX6_comesWithout_19 : decode cX6_comesWithout 19 = .ok (.iload_n 1, 1) := k_27 zcX6_comesWithout rfl rfl
theorem dX6_comesWithout_20 : decode cX6_comesWithout 20 = .ok (.invokevirtual 116, 3) := k_182 zcX6_comesWithout rfl rfl rfl
theorem dX6_comesWithout_23 : decode cX6_comesWithout 23 = .ok (.iconst 1, 1) := k_4 zcX6_comesWithout rfl rfl
theorem dX6_comesWithout_24 : decode cX6_comesWithout 24 = .ok (.isub, 1) := k_100 zcX6_comesWithout rfl rfl
theorem dX6_comesWithout_25 : decode cX6_comesWithout 25 = .ok (.invokevirtual 120, 3) := k_182 zcX6_comesWithout rfl rfl rfl
theorem dX6_comesWithout_28 : decode cX6_comesWithout 28 = .ok (.aload_n 0, 1) := k_42 zcX6_comesWithout rfl rfl
theorem dX6_comesWithout_29 : decode cX6_comesWithout 29 = .ok (.aload_n 0, 1) := k_42 zcX6_comesWithout rfl rfl
theorem dX6_comesWithout_30 : decode cX6_comesWithout 30 = .ok (.iload_n 1, 1) := k_27 zcX6_comesWithout rfl rfl
theorem dX6_comesWithout_31 : decode cX6_comesWithout 31 = .ok (.iconst 1, 1) := k_4 zcX6_comesWithout rfl rfl
theorem dX6_comesWithout_32 : decode cX6_comesWithout 32 = .ok (.invokevirtual 80, 3) := k_182 zcX6_comesWithout rfl rfl rfl
theorem dX6_comesWithout_35 : decode cX6_comesWithout 35 = .ok (.iload_n 3, 1) := k_29 zcX6_comesWithout rfl rfl
theorem dX6_comesWithout_36 : decode cX6_comesWithout 36 = .ok (.invokevirtual 197, 3) := k_182 zcX6_comesWithout rfl rfl rfl
theorem dX6_comesWithout_39 : decode cX6_comesWithout 39 = .ok (.ireturn, 1) := k_172 zcX6_comesWithout rfl rfl
theorem dX6_without_0 : decode cX6_without 0 = .ok (.aload_n 0, 1) := k_42 zcX6_without rfl rfl
theorem dX6_without_1 : decode cX6_without 1 = .ok (.iload_n 1, 1) := k_27 zcX6_without rfl rfl
theorem dX6_without_2 : decode cX6_without 2 = .ok (.iload_n 3, 1) := k_29 zcX6_without rfl rfl
theorem dX6_without_3 : decode cX6_without 3 = .ok (.invokevirtual 207, 3) := k_182 zcX6_without rfl rfl rfl
theorem dX6_without_6 : decode cX6_without 6 = .ok (.ifCond .eq 22, 3) := k_153 zcX6_without rfl rfl rfl
theorem dX6_without_9 : decode cX6_without 9 = .ok (.aload_n 0, 1) := k_42 zcX6_without rfl rfl
theorem dX6_without_10 : decode cX6_without 10 = .ok (.iload_n 1, 1) := k_27 zcX6_without rfl rfl
theorem dX6_without_11 : decode cX6_without 11 = .ok (.iload_n 2, 1) := k_28 zcX6_without rfl rfl
theorem dX6_without_12 : decode cX6_without 12 = .ok (.invokevirtual 262, 3) := k_182 zcX6_without rfl rfl rfl
theorem dX6_without_15 : decode cX6_without 15 = .ok (.ifCond .eq 13, 3) := k_153 zcX6_without rfl rfl rfl
theorem dX6_without_18 : decode cX6_without 18 = .ok (.aload_n 0, 1) := k_42 zcX6_without rfl rfl
theorem dX6_without_19 : decode cX6_without 19 = .ok (.iload_n 1, 1) := k_27 zcX6_without rfl rfl
theorem dX6_without_20 : decode cX6_without 20 = .ok (.iload_n 2, 1) := k_28 zcX6_without rfl rfl
theorem dX6_without_21 : decode cX6_without 21 = .ok (.iload_n 3, 1) := k_29 zcX6_without rfl rfl
theorem dX6_without_22 : decode cX6_without 22 = .ok (.invokevirtual 271, 3) := k_182 zcX6_without rfl rfl rfl
theorem dX6_without_25 : decode cX6_without 25 = .ok (.goto 5, 3) := k_167 zcX6_without rfl rfl rfl
theorem dX6_without_28 : decode cX6_without 28 = .ok (.ldc 160, 2) := k_18 zcX6_without rfl rfl rfl
theorem dX6_without_30 : decode cX6_without 30 = .ok (.ireturn, 1) := k_172 zcX6_without rfl rfl
theorem dX6_spare_0 : decode cX6_spare 0 = .ok (.aload_n 0, 1) := k_42 zcX6_spare rfl rfl
theorem dX6_spare_1 : decode cX6_spare 1 = .ok (.iload_n 1, 1) := k_27 zcX6_spare rfl rfl
theorem dX6_spare_2 : decode cX6_spare 2 = .ok (.iload_n 2, 1) := k_28 zcX6_spare rfl rfl
theorem dX6_spare_3 : decode cX6_spare 3 = .ok (.invokevirtual 207, 3) := k_182 zcX6_spare rfl rfl rfl
theorem dX6_spare_6 : decode cX6_spare 6 = .ok (.ifCond .eq 12, 3) := k_153 zcX6_spare rfl rfl rfl
theorem dX6_spare_9 : decode cX6_spare 9 = .ok (.aload_n 0, 1) := k_42 zcX6_spare rfl rfl
theorem dX6_spare_10 : decode cX6_spare 10 = .ok (.iload_n 1, 1) := k_27 zcX6_spare rfl rfl
theorem dX6_spare_11 : decode cX6_spare 11 = .ok (.invokevirtual 116, 3) := k_182 zcX6_spare rfl rfl rfl
theorem dX6_spare_14 : decode cX6_spare 14 = .ok (.iconst 2, 1) := k_5 zcX6_spare rfl rfl
theorem dX6_spare_15 : decode cX6_spare 15 = .ok (.if_icmp .ge 5, 3) := k_162 zcX6_spare rfl rfl rfl
theorem dX6_spare_18 : decode cX6_spare 18 = .ok (.iconst (-1), 1) := k_2 zcX6_spare rfl rfl
theorem dX6_spare_19 : decode cX6_spare 19 = .ok (.ireturn, 1) := k_172 zcX6_spare rfl rfl
theorem dX6_spare_20 : decode cX6_spare 20 = .ok (.iconst 0, 1) := k_3 zcX6_spare rfl rfl
theorem dX6_spare_21 : decode cX6_spare 21 = .ok (.istore_n 3, 1) := k_62 zcX6_spare rfl rfl
theorem dX6_spare_22 : decode cX6_spare 22 = .ok (.aload_n 0, 1) := k_42 zcX6_spare rfl rfl
theorem dX6_spare_23 : decode cX6_spare 23 = .ok (.iload_n 1, 1) := k_27 zcX6_spare rfl rfl
theorem dX6_spare_24 : decode cX6_spare 24 = .ok (.iconst 0, 1) := k_3 zcX6_spare rfl rfl
theorem dX6_spare_25 : decode cX6_spare 25 = .ok (.iload_n 2, 1) := k_28 zcX6_spare rfl rfl
theorem dX6_spare_26 : decode cX6_spare 26 = .ok (.invokevirtual 271, 3) := k_182 zcX6_spare rfl rfl rfl
theorem dX6_spare_29 : decode cX6_spare 29 = .ok (.istore 4, 2) := k_54 zcX6_spare rfl rfl rfl
theorem dX6_spare_31 : decode cX6_spare 31 = .ok (.iconst 1, 1) := k_4 zcX6_spare rfl rfl
theorem dX6_spare_32 : decode cX6_spare 32 = .ok (.istore 5, 2) := k_54 zcX6_spare rfl rfl rfl
theorem dX6_spare_34 : decode cX6_spare 34 = .ok (.iload 5, 2) := k_21 zcX6_spare rfl rfl rfl
theorem dX6_spare_36 : decode cX6_spare 36 = .ok (.aload_n 0, 1) := k_42 zcX6_spare rfl rfl
theorem dX6_spare_37 : decode cX6_spare 37 = .ok (.iload_n 1, 1) := k_27 zcX6_spare rfl rfl
theorem dX6_spare_38 : decode cX6_spare 38 = .ok (.invokevirtual 116, 3) := k_182 zcX6_spare rfl rfl rfl
theorem dX6_spare_41 : decode cX6_spare 41 = .ok (.if_icmp .ge 36, 3) := k_162 zcX6_spare rfl rfl rfl
theorem dX6_spare_44 : decode cX6_spare 44 = .ok (.aload_n 0, 1) := k_42 zcX6_spare rfl rfl
theorem dX6_spare_45 : decode cX6_spare 45 = .ok (.iload_n 1, 1) := k_27 zcX6_spare rfl rfl
theorem dX6_spare_46 : decode cX6_spare 46 = .ok (.iload 5, 2) := k_21 zcX6_spare rfl rfl rfl
theorem dX6_spare_48 : decode cX6_spare 48 = .ok (.iload_n 2, 1) := k_28 zcX6_spare rfl rfl
theorem dX6_spare_49 : decode cX6_spare 49 = .ok (.invokevirtual 271, 3) := k_182 zcX6_spare rfl rfl rfl
theorem dX6_spare_52 : decode cX6_spare 52 = .ok (.istore 6, 2) := k_54 zcX6_spare rfl rfl rfl
theorem dX6_spare_54 : decode cX6_spare 54 = .ok (.iload 6, 2) := k_21 zcX6_spare rfl rfl rfl
theorem dX6_spare_56 : decode cX6_spare 56 = .ok (.iload 4, 2) := k_21 zcX6_spare rfl rfl rfl
theorem dX6_spare_58 : decode cX6_spare 58 = .ok (.if_icmp .gt 6, 3) := k_163 zcX6_spare rfl rfl rfl
theorem dX6_spare_61 : decode cX6_spare 61 = .ok (.goto 10, 3) := k_167 zcX6_spare rfl rfl rfl
theorem dX6_spare_64 : decode cX6_spare 64 = .ok (.iload 5, 2) := k_21 zcX6_spare rfl rfl rfl
theorem dX6_spare_66 : decode cX6_spare 66 = .ok (.istore_n 3, 1) := k_62 zcX6_spare rfl rfl
theorem dX6_spare_67 : decode cX6_spare 67 = .ok (.iload 6, 2) := k_21 zcX6_spare rfl rfl rfl
theorem dX6_spare_69 : decode cX6_spare 69 = .ok (.istore 4, 2) := k_54 zcX6_spare rfl rfl rfl
theorem dX6_spare_71 : decode cX6_spare 71 = .ok (.iinc 5 1, 3) := k_132 zcX6_spare rfl rfl rfl rfl
theorem dX6_spare_74 : decode cX6_spare 74 = .ok (.goto (-40), 3) := k_167 zcX6_spare rfl rfl rfl
theorem dX6_spare_77 : decode cX6_spare 77 = .ok (.iload_n 3, 1) := k_29 zcX6_spare rfl rfl
theorem dX6_spare_78 : decode cX6_spare 78 = .ok (.ireturn, 1) := k_172 zcX6_spare rfl rfl
theorem dX6_turned_0 : decode cX6_turned 0 = .ok (.aload_n 0, 1) := k_42 zcX6_turned rfl rfl
theorem dX6_turned_1 : decode cX6_turned 1 = .ok (.iload_n 1, 1) := k_27 zcX6_turned rfl rfl
theorem dX6_turned_2 : decode cX6_turned 2 = .ok (.iload_n 2, 1) := k_28 zcX6_turned rfl rfl
theorem dX6_turned_3 : decode cX6_turned 3 = .ok (.invokevirtual 207, 3) := k_182 zcX6_turned rfl rfl rfl
theorem dX6_turned_6 : decode cX6_turned 6 = .ok (.ifCond .ne 6, 3) := k_154 zcX6_turned rfl rfl rfl
theorem dX6_turned_9 : decode cX6_turned 9 = .ok (.ldc 160, 2) := k_18 zcX6_turned rfl rfl rfl
theorem dX6_turned_11 : decode cX6_turned 11 = .ok (.ireturn, 1) := k_172 zcX6_turned rfl rfl
theorem dX6_turned_12 : decode cX6_turned 12 = .ok (.aload_n 0, 1) := k_42 zcX6_turned rfl rfl
theorem dX6_turned_13 : decode cX6_turned 13 = .ok (.invokevirtual 113, 3) := k_182 zcX6_turned rfl rfl rfl
theorem dX6_turned_16 : decode cX6_turned 16 = .ok (.aload_n 0, 1) := k_42 zcX6_turned rfl rfl
theorem dX6_turned_17 : decode cX6_turned 17 = .ok (.iload_n 1, 1) := k_27 zcX6_turned rfl rfl
theorem dX6_turned_18 : decode cX6_turned 18 = .ok (.invokevirtual 116, 3) := k_182 zcX6_turned rfl rfl rfl
theorem dX6_turned_21 : decode cX6_turned 21 = .ok (.iconst 1, 1) := k_4 zcX6_turned rfl rfl
theorem dX6_turned_22 : decode cX6_turned 22 = .ok (.isub, 1) := k_100 zcX6_turned rfl rfl
theorem dX6_turned_23 : decode cX6_turned 23 = .ok (.istore_n 3, 1) := k_62 zcX6_turned rfl rfl
theorem dX6_turned_24 : decode cX6_turned 24 = .ok (.iload_n 3, 1) := k_29 zcX6_turned rfl rfl
theorem dX6_turned_25 : decode cX6_turned 25 = .ok (.ifCond .lt 24, 3) := k_155 zcX6_turned rfl rfl rfl
theorem dX6_turned_28 : decode cX6_turned 28 = .ok (.aload_n 0, 1) := k_42 zcX6_turned rfl rfl
theorem dX6_turned_29 : decode cX6_turned 29 = .ok (.aload_n 0, 1) := k_42 zcX6_turned rfl rfl
theorem dX6_turned_30 : decode cX6_turned 30 = .ok (.getfield 16, 3) := k_180 zcX6_turned rfl rfl rfl
theorem dX6_turned_33 : decode cX6_turned 33 = .ok (.bipush 121, 2) := k_16 zcX6_turned rfl rfl rfl
theorem dX6_turned_35 : decode cX6_turned 35 = .ok (.iload_n 1, 1) := k_27 zcX6_turned rfl rfl
theorem dX6_turned_36 : decode cX6_turned 36 = .ok (.imul, 1) := k_104 zcX6_turned rfl rfl
theorem dX6_turned_37 : decode cX6_turned 37 = .ok (.iload_n 3, 1) := k_29 zcX6_turned rfl rfl
theorem dX6_turned_38 : decode cX6_turned 38 = .ok (.iadd, 1) := k_96 zcX6_turned rfl rfl
theorem dX6_turned_39 : decode cX6_turned 39 = .ok (.iaload, 1) := k_46 zcX6_turned rfl rfl
theorem dX6_turned_40 : decode cX6_turned 40 = .ok (.invokevirtual 109, 3) := k_182 zcX6_turned rfl rfl rfl
theorem dX6_turned_43 : decode cX6_turned 43 = .ok (.iinc 3 (-1), 3) := k_132 zcX6_turned rfl rfl rfl rfl
theorem dX6_turned_46 : decode cX6_turned 46 = .ok (.goto (-22), 3) := k_167 zcX6_turned rfl rfl rfl
theorem dX6_turned_49 : decode cX6_turned 49 = .ok (.aload_n 0, 1) := k_42 zcX6_turned rfl rfl
theorem dX6_turned_50 : decode cX6_turned 50 = .ok (.aload_n 0, 1) := k_42 zcX6_turned rfl rfl
theorem dX6_turned_51 : decode cX6_turned 51 = .ok (.iload_n 1, 1) := k_27 zcX6_turned rfl rfl
theorem dX6_turned_52 : decode cX6_turned 52 = .ok (.iconst 1, 1) := k_4 zcX6_turned rfl rfl
theorem dX6_turned_53 : decode cX6_turned 53 = .ok (.invokevirtual 80, 3) := k_182 zcX6_turned rfl rfl rfl
theorem dX6_turned_56 : decode cX6_turned 56 = .ok (.iload_n 2, 1) := k_28 zcX6_turned rfl rfl
theorem dX6_turned_57 : decode cX6_turned 57 = .ok (.invokevirtual 197, 3) := k_182 zcX6_turned rfl rfl rfl
theorem dX6_turned_60 : decode cX6_turned 60 = .ok (.ireturn, 1) := k_172 zcX6_turned rfl rfl
theorem dX6_keepNumbers_0 : decode cX6_keepNumbers 0 = .ok (.iconst 0, 1) := k_3 zcX6_keepNumbers rfl rfl
theorem dX6_keepNumbers_1 : decode cX6_keepNumbers 1 = .ok (.istore_n 2, 1) := k_61 zcX6_keepNumbers rfl rfl
theorem dX6_keepNumbers_2 : decode cX6_keepNumbers 2 = .ok (.iload_n 2, 1) := k_28 zcX6_keepNumbers rfl rfl
theorem dX6_keepNumbers_3 : decode cX6_keepNumbers 3 = .ok (.iload_n 1, 1) := k_27 zcX6_keepNumbers rfl rfl
theorem dX6_keepNumbers_4 : decode cX6_keepNumbers 4 = .ok (.invokestatic 127, 3) := k_184 zcX6_keepNumbers rfl rfl rfl
theorem dX6_keepNumbers_7 : decode cX6_keepNumbers 7 = .ok (.if_icmp .ge 21, 3) := k_162 zcX6_keepNumbers rfl rfl rfl
theorem dX6_keepNumbers_10 : decode cX6_keepNumbers 10 = .ok (.aload_n 0, 1) := k_42 zcX6_keepNumbers rfl rfl
theorem dX6_keepNumbers_11 : decode cX6_keepNumbers 11 = .ok (.getfield 64, 3) := k_180 zcX6_keepNumbers rfl rfl rfl
theorem dX6_keepNumbers_14 : decode cX6_keepNumbers 14 = .ok (.iload_n 2, 1) := k_28 zcX6_keepNumbers rfl rfl
theorem dX6_keepNumbers_15 : decode cX6_keepNumbers 15 = .ok (.aload_n 0, 1) := k_42 zcX6_keepNumbers rfl rfl
theorem dX6_keepNumbers_16 : decode cX6_keepNumbers 16 = .ok (.getfield 31, 3) := k_180 zcX6_keepNumbers rfl rfl rfl
theorem dX6_keepNumbers_19 : decode cX6_keepNumbers 19 = .ok (.iload_n 2, 1) := k_28 zcX6_keepNumbers rfl rfl
theorem dX6_keepNumbers_20 : decode cX6_keepNumbers 20 = .ok (.iaload, 1) := k_46 zcX6_keepNumbers rfl rfl
theorem dX6_keepNumbers_21 : decode cX6_keepNumbers 21 = .ok (.iastore, 1) := k_79 zcX6_keepNumbers rfl rfl
theorem dX6_keepNumbers_22 : decode cX6_keepNumbers 22 = .ok (.iinc 2 1, 3) := k_132 zcX6_keepNumbers rfl rfl rfl rfl
theorem dX6_keepNumbers_25 : decode cX6_keepNumbers 25 = .ok (.goto (-23), 3) := k_167 zcX6_keepNumbers rfl rfl rfl
theorem dX6_keepNumbers_28 : decode cX6_keepNumbers 28 = .ok (.return_, 1) := k_177 zcX6_keepNumbers rfl rfl
theorem dX6_areKept_0 : decode cX6_areKept 0 = .ok (.iconst 0, 1) := k_3 zcX6_areKept rfl rfl
theorem dX6_areKept_1 : decode cX6_areKept 1 = .ok (.istore_n 2, 1) := k_61 zcX6_areKept rfl rfl
theorem dX6_areKept_2 : decode cX6_areKept 2 = .ok (.iload_n 2, 1) := k_28 zcX6_areKept rfl rfl
theorem dX6_areKept_3 : decode cX6_areKept 3 = .ok (.iload_n 1, 1) := k_27 zcX6_areKept rfl rfl
theorem dX6_areKept_4 : decode cX6_areKept 4 = .ok (.invokestatic 127, 3) := k_184 zcX6_areKept rfl rfl rfl
theorem dX6_areKept_7 : decode cX6_areKept 7 = .ok (.if_icmp .ge 26, 3) := k_162 zcX6_areKept rfl rfl rfl
theorem dX6_areKept_10 : decode cX6_areKept 10 = .ok (.aload_n 0, 1) := k_42 zcX6_areKept rfl rfl
theorem dX6_areKept_11 : decode cX6_areKept 11 = .ok (.getfield 64, 3) := k_180 zcX6_areKept rfl rfl rfl
theorem dX6_areKept_14 : decode cX6_areKept 14 = .ok (.iload_n 2, 1) := k_28 zcX6_areKept rfl rfl
theorem dX6_areKept_15 : decode cX6_areKept 15 = .ok (.iaload, 1) := k_46 zcX6_areKept rfl rfl
theorem dX6_areKept_16 : decode cX6_areKept 16 = .ok (.aload_n 0, 1) := k_42 zcX6_areKept rfl rfl
theorem dX6_areKept_17 : decode cX6_areKept 17 = .ok (.getfield 31, 3) := k_180 zcX6_areKept rfl rfl rfl
theorem dX6_areKept_20 : decode cX6_areKept 20 = .ok (.iload_n 2, 1) := k_28 zcX6_areKept rfl rfl
theorem dX6_areKept_21 : decode cX6_areKept 21 = .ok (.iaload, 1) := k_46 zcX6_areKept rfl rfl
theorem dX6_areKept_22 : decode cX6_areKept 22 = .ok (.if_icmp .eq 5, 3) := k_159 zcX6_areKept rfl rfl rfl
theorem dX6_areKept_25 : decode cX6_areKept 25 = .ok (.iconst 0, 1) := k_3 zcX6_areKept rfl rfl
theorem dX6_areKept_26 : decode cX6_areKept 26 = .ok (.ireturn, 1) := k_172 zcX6_areKept rfl rfl
theorem dX6_areKept_27 : decode cX6_areKept 27 = .ok (.iinc 2 1, 3) := k_132 zcX6_areKept rfl rfl rfl rfl
theorem dX6_areKept_30 : decode cX6_areKept 30 = .ok (.goto (-28), 3) := k_167 zcX6_areKept rfl rfl rfl
theorem dX6_areKept_33 : decode cX6_areKept 33 = .ok (.iconst 1, 1) := k_4 zcX6_areKept rfl rfl
theorem dX6_areKept_34 : decode cX6_areKept 34 = .ok (.ireturn, 1) := k_172 zcX6_areKept rfl rfl
theorem dX6_commutes_0 : decode cX6_commutes 0 = .ok (.aload_n 0, 1) := k_42 zcX6_commutes rfl rfl
theorem dX6_commutes_1 : decode cX6_commutes 1 = .ok (.iload_n 1, 1) := k_27 zcX6_commutes rfl rfl
theorem dX6_commutes_2 : decode cX6_commutes 2 = .ok (.invokevirtual 124, 3) := k_182 zcX6_commutes rfl rfl rfl
theorem dX6_commutes_5 : decode cX6_commutes 5 = .ok (.ifCond .eq 18, 3) := k_153 zcX6_commutes rfl rfl rfl
theorem dX6_commutes_8 : decode cX6_commutes 8 = .ok (.iload_n 2, 1) := k_28 zcX6_commutes rfl rfl
theorem dX6_commutes_9 : decode cX6_commutes 9 = .ok (.iconst 0, 1) := k_3 zcX6_commutes rfl rfl
theorem dX6_commutes_10 : decode cX6_commutes 10 = .ok (.aload_n 0, 1) := k_42 zcX6_commutes rfl rfl
theorem dX6_commutes_11 : decode cX6_commutes 11 = .ok (.iload_n 1, 1) := k_27 zcX6_commutes rfl rfl
theorem dX6_commutes_12 : decode cX6_commutes 12 = .ok (.invokevirtual 116, 3) := k_182 zcX6_commutes rfl rfl rfl
theorem dX6_commutes_15 : decode cX6_commutes 15 = .ok (.iconst 2, 1) := k_5 zcX6_commutes rfl rfl
theorem dX6_commutes_16 : decode cX6_commutes 16 = .ok (.isub, 1) := k_100 zcX6_commutes rfl rfl
theorem dX6_commutes_17 : decode cX6_commutes 17 = .ok (.invokestatic 76, 3) := k_184 zcX6_commutes rfl rfl rfl
theorem dX6_commutes_20 : decode cX6_commutes 20 = .ok (.ifCond .ne 5, 3) := k_154 zcX6_commutes rfl rfl rfl
theorem dX6_commutes_23 : decode cX6_commutes 23 = .ok (.iconst (-1), 1) := k_2 zcX6_commutes rfl rfl
theorem dX6_commutes_24 : decode cX6_commutes 24 = .ok (.ireturn, 1) := k_172 zcX6_commutes rfl rfl
theorem dX6_commutes_25 : decode cX6_commutes 25 = .ok (.aload_n 0, 1) := k_42 zcX6_commutes rfl rfl
theorem dX6_commutes_26 : decode cX6_commutes 26 = .ok (.iload_n 1, 1) := k_27 zcX6_commutes rfl rfl
theorem dX6_commutes_27 : decode cX6_commutes 27 = .ok (.invokevirtual 194, 3) := k_182 zcX6_commutes rfl rfl rfl
theorem dX6_commutes_30 : decode cX6_commutes 30 = .ok (.aload_n 0, 1) := k_42 zcX6_commutes rfl rfl
theorem dX6_commutes_31 : decode cX6_commutes 31 = .ok (.aload_n 0, 1) := k_42 zcX6_commutes rfl rfl
theorem dX6_commutes_32 : decode cX6_commutes 32 = .ok (.iload_n 1, 1) := k_27 zcX6_commutes rfl rfl
theorem dX6_commutes_33 : decode cX6_commutes 33 = .ok (.iconst 1, 1) := k_4 zcX6_commutes rfl rfl
theorem dX6_commutes_34 : decode cX6_commutes 34 = .ok (.invokevirtual 80, 3) := k_182 zcX6_commutes rfl rfl rfl
theorem dX6_commutes_37 : decode cX6_commutes 37 = .ok (.invokevirtual 161, 3) := k_182 zcX6_commutes rfl rfl rfl
theorem dX6_commutes_40 : decode cX6_commutes 40 = .ok (.aload_n 0, 1) := k_42 zcX6_commutes rfl rfl
theorem dX6_commutes_41 : decode cX6_commutes 41 = .ok (.aload_n 0, 1) := k_42 zcX6_commutes rfl rfl
theorem dX6_commutes_42 : decode cX6_commutes 42 = .ok (.iload_n 1, 1) := k_27 zcX6_commutes rfl rfl
theorem dX6_commutes_43 : decode cX6_commutes 43 = .ok (.iconst 1, 1) := k_4 zcX6_commutes rfl rfl
theorem dX6_commutes_44 : decode cX6_commutes 44 = .ok (.invokevirtual 80, 3) := k_182 zcX6_commutes rfl rfl rfl
theorem dX6_commutes_47 : decode cX6_commutes 47 = .ok (.invokevirtual 274, 3) := k_182 zcX6_commutes rfl rfl rfl
theorem dX6_commutes_50 : decode cX6_commutes 50 = .ok (.aload_n 0, 1) := k_42 zcX6_commutes rfl rfl
theorem dX6_commutes_51 : decode cX6_commutes 51 = .ok (.getfield 28, 3) := k_180 zcX6_commutes rfl rfl rfl
theorem dX6_commutes_54 : decode cX6_commutes 54 = .ok (.iload_n 2, 1) := k_28 zcX6_commutes rfl rfl
theorem dX6_commutes_55 : decode cX6_commutes 55 = .ok (.iaload, 1) := k_46 zcX6_commutes rfl rfl
theorem dX6_commutes_56 : decode cX6_commutes 56 = .ok (.istore_n 3, 1) := k_62 zcX6_commutes rfl rfl
theorem dX6_commutes_57 : decode cX6_commutes 57 = .ok (.aload_n 0, 1) := k_42 zcX6_commutes rfl rfl
theorem dX6_commutes_58 : decode cX6_commutes 58 = .ok (.getfield 28, 3) := k_180 zcX6_commutes rfl rfl rfl
theorem dX6_commutes_61 : decode cX6_commutes 61 = .ok (.iload_n 2, 1) := k_28 zcX6_commutes rfl rfl
theorem dX6_commutes_62 : decode cX6_commutes 62 = .ok (.aload_n 0, 1) := k_42 zcX6_commutes rfl rfl
theorem dX6_commutes_63 : decode cX6_commutes 63 = .ok (.getfield 28, 3) := k_180 zcX6_commutes rfl rfl rfl
theorem dX6_commutes_66 : decode cX6_commutes 66 = .ok (.iload_n 2, 1) := k_28 zcX6_commutes rfl rfl
theorem dX6_commutes_67 : decode cX6_commutes 67 = .ok (.iconst 1, 1) := k_4 zcX6_commutes rfl rfl
theorem dX6_commutes_68 : decode cX6_commutes 68 = .ok (.iadd, 1) := k_96 zcX6_commutes rfl rfl
theorem dX6_commutes_69 : decode cX6_commutes 69 = .ok (.iaload, 1) := k_46 zcX6_commutes rfl rfl
theorem dX6_commutes_70 : decode cX6_commutes 70 = .ok (.iastore, 1) := k_79 zcX6_commutes rfl rfl
theorem dX6_commutes_71 : decode cX6_commutes 71 = .ok (.aload_n 0, 1) := k_42 zcX6_commutes rfl rfl
theorem dX6_commutes_72 : decode cX6_commutes 72 = .ok (.getfield 28, 3) := k_180 zcX6_commutes rfl rfl rfl
theorem dX6_commutes_75 : decode cX6_commutes 75 = .ok (.iload_n 2, 1) := k_28 zcX6_commutes rfl rfl
theorem dX6_commutes_76 : decode cX6_commutes 76 = .ok (.iconst 1, 1) := k_4 zcX6_commutes rfl rfl
theorem dX6_commutes_77 : decode cX6_commutes 77 = .ok (.iadd, 1) := k_96 zcX6_commutes rfl rfl
theorem dX6_commutes_78 : decode cX6_commutes 78 = .ok (.iload_n 3, 1) := k_29 zcX6_commutes rfl rfl
theorem dX6_commutes_79 : decode cX6_commutes 79 = .ok (.iastore, 1) := k_79 zcX6_commutes rfl rfl
theorem dX6_commutes_80 : decode cX6_commutes 80 = .ok (.aload_n 0, 1) := k_42 zcX6_commutes rfl rfl
theorem dX6_commutes_81 : decode cX6_commutes 81 = .ok (.aload_n 0, 1) := k_42 zcX6_commutes rfl rfl
theorem dX6_commutes_82 : decode cX6_commutes 82 = .ok (.iload_n 1, 1) := k_27 zcX6_commutes rfl rfl
theorem dX6_commutes_83 : decode cX6_commutes 83 = .ok (.iconst 1, 1) := k_4 zcX6_commutes rfl rfl
theorem dX6_commutes_84 : decode cX6_commutes 84 = .ok (.invokevirtual 80, 3) := k_182 zcX6_commutes rfl rfl rfl
theorem dX6_commutes_87 : decode cX6_commutes 87 = .ok (.invokevirtual 161, 3) := k_182 zcX6_commutes rfl rfl rfl
theorem dX6_commutes_90 : decode cX6_commutes 90 = .ok (.aload_n 0, 1) := k_42 zcX6_commutes rfl rfl
theorem dX6_commutes_91 : decode cX6_commutes 91 = .ok (.aload_n 0, 1) := k_42 zcX6_commutes rfl rfl
theorem dX6_commutes_92 : decode cX6_commutes 92 = .ok (.iload_n 1, 1) := k_27 zcX6_commutes rfl rfl
theorem dX6_commutes_93 : decode cX6_commutes 93 = .ok (.iconst 1, 1) := k_4 zcX6_commutes rfl rfl
theorem dX6_commutes_94 : decode cX6_commutes 94 = .ok (.invokevirtual 80, 3) := k_182 zcX6_commutes rfl rfl rfl
theorem dX6_commutes_97 : decode cX6_commutes 97 = .ok (.invokevirtual 277, 3) := k_182 zcX6_commutes rfl rfl rfl
theorem dX6_commutes_100 : decode cX6_commutes 100 = .ok (.ifCond .eq 7, 3) := k_153 zcX6_commutes rfl rfl rfl
theorem dX6_commutes_103 : decode cX6_commutes 103 = .ok (.iconst 1, 1) := k_4 zcX6_commutes rfl rfl
theorem dX6_commutes_104 : decode cX6_commutes 104 = .ok (.goto 4, 3) := k_167 zcX6_commutes rfl rfl rfl
theorem dX6_commutes_107 : decode cX6_commutes 107 = .ok (.iconst 0, 1) := k_3 zcX6_commutes rfl rfl
theorem dX6_commutes_108 : decode cX6_commutes 108 = .ok (.ireturn, 1) := k_172 zcX6_commutes rfl rfl
theorem dX6_areAlike_0 : decode cX6_areAlike 0 = .ok (.aload_n 0, 1) := k_42 zcX6_areAlike rfl rfl
theorem dX6_areAlike_1 : decode cX6_areAlike 1 = .ok (.iload_n 1, 1) := k_27 zcX6_areAlike rfl rfl
theorem dX6_areAlike_2 : decode cX6_areAlike 2 = .ok (.invokevirtual 124, 3) := k_182 zcX6_areAlike rfl rfl rfl
theorem dX6_areAlike_5 : decode cX6_areAlike 5 = .ok (.ifCond .eq 30, 3) := k_153 zcX6_areAlike rfl rfl rfl
theorem dX6_areAlike_8 : decode cX6_areAlike 8 = .ok (.aload_n 0, 1) := k_42 zcX6_areAlike rfl rfl
theorem dX6_areAlike_9 : decode cX6_areAlike 9 = .ok (.iload_n 2, 1) := k_28 zcX6_areAlike rfl rfl
theorem dX6_areAlike_10 : decode cX6_areAlike 10 = .ok (.invokevirtual 124, 3) := k_182 zcX6_areAlike rfl rfl rfl
theorem dX6_areAlike_13 : decode cX6_areAlike 13 = .ok (.ifCond .eq 22, 3) := k_153 zcX6_areAlike rfl rfl rfl
theorem dX6_areAlike_16 : decode cX6_areAlike 16 = .ok (.aload_n 0, 1) := k_42 zcX6_areAlike rfl rfl
theorem dX6_areAlike_17 : decode cX6_areAlike 17 = .ok (.iload_n 1, 1) := k_27 zcX6_areAlike rfl rfl
theorem dX6_areAlike_18 : decode cX6_areAlike 18 = .ok (.iconst 1, 1) := k_4 zcX6_areAlike rfl rfl
theorem dX6_areAlike_19 : decode cX6_areAlike 19 = .ok (.invokevirtual 80, 3) := k_182 zcX6_areAlike rfl rfl rfl
theorem dX6_areAlike_22 : decode cX6_areAlike 22 = .ok (.aload_n 0, 1) := k_42 zcX6_areAlike rfl rfl
theorem dX6_areAlike_23 : decode cX6_areAlike 23 = .ok (.iload_n 2, 1) := k_28 zcX6_areAlike rfl rfl
theorem dX6_areAlike_24 : decode cX6_areAlike 24 = .ok (.iconst 1, 1) := k_4 zcX6_areAlike rfl rfl
theorem dX6_areAlike_25 : decode cX6_areAlike 25 = .ok (.invokevirtual 80, 3) := k_182 zcX6_areAlike rfl rfl rfl
theorem dX6_areAlike_28 : decode cX6_areAlike 28 = .ok (.if_icmp .ne 7, 3) := k_160 zcX6_areAlike rfl rfl rfl
theorem dX6_areAlike_31 : decode cX6_areAlike 31 = .ok (.iconst 1, 1) := k_4 zcX6_areAlike rfl rfl
theorem dX6_areAlike_32 : decode cX6_areAlike 32 = .ok (.goto 4, 3) := k_167 zcX6_areAlike rfl rfl rfl
theorem dX6_areAlike_35 : decode cX6_areAlike 35 = .ok (.iconst 0, 1) := k_3 zcX6_areAlike rfl rfl
theorem dX6_areAlike_36 : decode cX6_areAlike 36 = .ok (.ireturn, 1) := k_172 zcX6_areAlike rfl rfl
theorem dX6_joined_0 : decode cX6_joined 0 = .ok (.aload_n 0, 1) := k_42 zcX6_joined rfl rfl
theorem dX6_joined_1 : decode cX6_joined 1 = .ok (.iload_n 1, 1) := k_27 zcX6_joined rfl rfl
theorem dX6_joined_2 : decode cX6_joined 2 = .ok (.iload_n 2, 1) := k_28 zcX6_joined rfl rfl
theorem dX6_joined_3 : decode cX6_joined 3 = .ok (.invokevirtual 280, 3) := k_182 zcX6_joined rfl rfl rfl
theorem dX6_joined_6 : decode cX6_joined 6 = .ok (.ifCond .eq 12, 3) := k_153 zcX6_joined rfl rfl rfl
theorem dX6_joined_9 : decode cX6_joined 9 = .ok (.aload_n 0, 1) := k_42 zcX6_joined rfl rfl
theorem dX6_joined_10 : decode cX6_joined 10 = .ok (.iload_n 1, 1) := k_27 zcX6_joined rfl rfl
theorem dX6_joined_11 : decode cX6_joined 11 = .ok (.iload_n 3, 1) := k_29 zcX6_joined rfl rfl
theorem dX6_joined_12 : decode cX6_joined 12 = .ok (.invokevirtual 207, 3) := k_182 zcX6_joined rfl rfl rfl
theorem dX6_joined_15 : decode cX6_joined 15 = .ok (.ifCond .ne 6, 3) := k_154 zcX6_joined rfl rfl rfl
theorem dX6_joined_18 : decode cX6_joined 18 = .ok (.ldc 160, 2) := k_18 zcX6_joined rfl rfl rfl
theorem dX6_joined_20 : decode cX6_joined 20 = .ok (.ireturn, 1) := k_172 zcX6_joined rfl rfl
theorem dX6_joined_21 : decode cX6_joined 21 = .ok (.aload_n 0, 1) := k_42 zcX6_joined rfl rfl
theorem dX6_joined_22 : decode cX6_joined 22 = .ok (.iload_n 1, 1) := k_27 zcX6_joined rfl rfl
theorem dX6_joined_23 : decode cX6_joined 23 = .ok (.invokevirtual 194, 3) := k_182 zcX6_joined rfl rfl rfl
theorem dX6_joined_26 : decode cX6_joined 26 = .ok (.aload_n 0, 1) := k_42 zcX6_joined rfl rfl
theorem dX6_joined_27 : decode cX6_joined 27 = .ok (.iload_n 2, 1) := k_28 zcX6_joined rfl rfl
theorem dX6_joined_28 : decode cX6_joined 28 = .ok (.iconst 0, 1) := k_3 zcX6_joined rfl rfl
theorem dX6_joined_29 : decode cX6_joined 29 = .ok (.aload_n 0, 1) := k_42 zcX6_joined rfl rfl
theorem dX6_joined_30 : decode cX6_joined 30 = .ok (.iload_n 2, 1) := k_28 zcX6_joined rfl rfl
theorem dX6_joined_31 : decode cX6_joined 31 = .ok (.invokevirtual 116, 3) := k_182 zcX6_joined rfl rfl rfl
theorem dX6_joined_34 : decode cX6_joined 34 = .ok (.iconst 1, 1) := k_4 zcX6_joined rfl rfl
theorem dX6_joined_35 : decode cX6_joined 35 = .ok (.isub, 1) := k_100 zcX6_joined rfl rfl
theorem dX6_joined_36 : decode cX6_joined 36 = .ok (.invokevirtual 120, 3) := k_182 zcX6_joined rfl rfl rfl
theorem dX6_joined_39 : decode cX6_joined 39 = .ok (.aload_n 0, 1) := k_42 zcX6_joined rfl rfl
theorem dX6_joined_40 : decode cX6_joined 40 = .ok (.aload_n 0, 1) := k_42 zcX6_joined rfl rfl
theorem dX6_joined_41 : decode cX6_joined 41 = .ok (.iload_n 1, 1) := k_27 zcX6_joined rfl rfl
theorem dX6_joined_42 : decode cX6_joined 42 = .ok (.iconst 1, 1) := k_4 zcX6_joined rfl rfl
theorem dX6_joined_43 : decode cX6_joined 43 = .ok (.invokevirtual 80, 3) := k_182 zcX6_joined rfl rfl rfl
theorem dX6_joined_46 : decode cX6_joined 46 = .ok (.iload_n 3, 1) := k_29 zcX6_joined rfl rfl
theorem dX6_joined_47 : decode cX6_joined 47 = .ok (.invokevirtual 197, 3) := k_182 zcX6_joined rfl rfl rfl
theorem dX6_joined_50 : decode cX6_joined 50 = .ok (.ireturn, 1) := k_172 zcX6_joined rfl rfl
theorem dX6_woven_0 : decode cX6_woven 0 = .ok (.aload_n 0, 1) := k_42 zcX6_woven rfl rfl
theorem dX6_woven_1 : decode cX6_woven 1 = .ok (.iload_n 1, 1) := k_27 zcX6_woven rfl rfl
theorem dX6_woven_2 : decode cX6_woven 2 = .ok (.iload_n 2, 1) := k_28 zcX6_woven rfl rfl
theorem dX6_woven_3 : decode cX6_woven 3 = .ok (.invokevirtual 280, 3) := k_182 zcX6_woven rfl rfl rfl
theorem dX6_woven_6 : decode cX6_woven 6 = .ok (.ifCond .eq 12, 3) := k_153 zcX6_woven rfl rfl rfl
theorem dX6_woven_9 : decode cX6_woven 9 = .ok (.aload_n 0, 1) := k_42 zcX6_woven rfl rfl
theorem dX6_woven_10 : decode cX6_woven 10 = .ok (.iload_n 1, 1) := k_27 zcX6_woven rfl rfl
theorem dX6_woven_11 : decode cX6_woven 11 = .ok (.iload_n 3, 1) := k_29 zcX6_woven rfl rfl
theorem dX6_woven_12 : decode cX6_woven 12 = .ok (.invokevirtual 207, 3) := k_182 zcX6_woven rfl rfl rfl
theorem dX6_woven_15 : decode cX6_woven 15 = .ok (.ifCond .ne 6, 3) := k_154 zcX6_woven rfl rfl rfl
theorem dX6_woven_18 : decode cX6_woven 18 = .ok (.ldc 160, 2) := k_18 zcX6_woven rfl rfl rfl
theorem dX6_woven_20 : decode cX6_woven 20 = .ok (.ireturn, 1) := k_172 zcX6_woven rfl rfl
theorem dX6_woven_21 : decode cX6_woven 21 = .ok (.aload_n 0, 1) := k_42 zcX6_woven rfl rfl
theorem dX6_woven_22 : decode cX6_woven 22 = .ok (.invokevirtual 113, 3) := k_182 zcX6_woven rfl rfl rfl
theorem dX6_woven_25 : decode cX6_woven 25 = .ok (.iconst 0, 1) := k_3 zcX6_woven rfl rfl
theorem dX6_woven_26 : decode cX6_woven 26 = .ok (.istore 4, 2) := k_54 zcX6_woven rfl rfl rfl
theorem dX6_woven_28 : decode cX6_woven 28 = .ok (.iconst 0, 1) := k_3 zcX6_woven rfl rfl
theorem dX6_woven_29 : decode cX6_woven 29 = .ok (.istore 5, 2) := k_54 zcX6_woven rfl rfl rfl
theorem dX6_woven_31 : decode cX6_woven 31 = .ok (.iload 5, 2) := k_21 zcX6_woven rfl rfl rfl
theorem dX6_woven_33 : decode cX6_woven 33 = .ok (.aload_n 0, 1) := k_42 zcX6_woven rfl rfl
theorem dX6_woven_34 : decode cX6_woven 34 = .ok (.iload_n 1, 1) := k_27 zcX6_woven rfl rfl
theorem dX6_woven_35 : decode cX6_woven 35 = .ok (.invokevirtual 116, 3) := k_182 zcX6_woven rfl rfl rfl
theorem dX6_woven_38 : decode cX6_woven 38 = .ok (.if_icmp .ge 84, 3) := k_162 zcX6_woven rfl rfl rfl
theorem dX6_woven_41 : decode cX6_woven 41 = .ok (.iload 4, 2) := k_21 zcX6_woven rfl rfl rfl
theorem dX6_woven_43 : decode cX6_woven 43 = .ok (.aload_n 0, 1) := k_42 zcX6_woven rfl rfl
theorem dX6_woven_44 : decode cX6_woven 44 = .ok (.iload_n 2, 1) := k_28 zcX6_woven rfl rfl
theorem dX6_woven_45 : decode cX6_woven 45 = .ok (.invokevirtual 116, 3) := k_182 zcX6_woven rfl rfl rfl
theorem dX6_woven_48 : decode cX6_woven 48 = .ok (.if_icmp .ge 52, 3) := k_162 zcX6_woven rfl rfl rfl
theorem dX6_woven_51 : decode cX6_woven 51 = .ok (.aload_n 0, 1) := k_42 zcX6_woven rfl rfl
theorem dX6_woven_52 : decode cX6_woven 52 = .ok (.getfield 13, 3) := k_180 zcX6_woven rfl rfl rfl
theorem dX6_woven_55 : decode cX6_woven 55 = .ok (.bipush 121, 2) := k_16 zcX6_woven rfl rfl rfl
theorem dX6_woven_57 : decode cX6_woven 57 = .ok (.iload_n 2, 1) := k_28 zcX6_woven rfl rfl
theorem dX6_woven_58 : decode cX6_woven 58 = .ok (.imul, 1) := k_104 zcX6_woven rfl rfl
theorem dX6_woven_59 : decode cX6_woven 59 = .ok (.iload 4, 2) := k_21 zcX6_woven rfl rfl rfl
theorem dX6_woven_61 : decode cX6_woven 61 = .ok (.iadd, 1) := k_96 zcX6_woven rfl rfl
theorem dX6_woven_62 : decode cX6_woven 62 = .ok (.iaload, 1) := k_46 zcX6_woven rfl rfl
theorem dX6_woven_63 : decode cX6_woven 63 = .ok (.aload_n 0, 1) := k_42 zcX6_woven rfl rfl
theorem dX6_woven_64 : decode cX6_woven 64 = .ok (.getfield 13, 3) := k_180 zcX6_woven rfl rfl rfl
theorem dX6_woven_67 : decode cX6_woven 67 = .ok (.bipush 121, 2) := k_16 zcX6_woven rfl rfl rfl
theorem dX6_woven_69 : decode cX6_woven 69 = .ok (.iload_n 1, 1) := k_27 zcX6_woven rfl rfl
theorem dX6_woven_70 : decode cX6_woven 70 = .ok (.imul, 1) := k_104 zcX6_woven rfl rfl
theorem dX6_woven_71 : decode cX6_woven 71 = .ok (.iload 5, 2) := k_21 zcX6_woven rfl rfl rfl
theorem dX6_woven_73 : decode cX6_woven 73 = .ok (.iadd, 1) := k_96 zcX6_woven rfl rfl
theorem dX6_woven_74 : decode cX6_woven 74 = .ok (.iaload, 1) := k_46 zcX6_woven rfl rfl
theorem dX6_woven_75 : decode cX6_woven 75 = .ok (.if_icmp .ge 25, 3) := k_162 zcX6_woven rfl rfl rfl
theorem dX6_woven_78 : decode cX6_woven 78 = .ok (.aload_n 0, 1) := k_42 zcX6_woven rfl rfl
theorem dX6_woven_79 : decode cX6_woven 79 = .ok (.aload_n 0, 1) := k_42 zcX6_woven rfl rfl
theorem dX6_woven_80 : decode cX6_woven 80 = .ok (.getfield 16, 3) := k_180 zcX6_woven rfl rfl rfl
theorem dX6_woven_83 : decode cX6_woven 83 = .ok (.bipush 121, 2) := k_16 zcX6_woven rfl rfl rfl
theorem dX6_woven_85 : decode cX6_woven 85 = .ok (.iload_n 2, 1) := k_28 zcX6_woven rfl rfl
theorem dX6_woven_86 : decode cX6_woven 86 = .ok (.imul, 1) := k_104 zcX6_woven rfl rfl
theorem dX6_woven_87 : decode cX6_woven 87 = .ok (.iload 4, 2) := k_21 zcX6_woven rfl rfl rfl
theorem dX6_woven_89 : decode cX6_woven 89 = .ok (.iadd, 1) := k_96 zcX6_woven rfl rfl
theorem dX6_woven_90 : decode cX6_woven 90 = .ok (.iaload, 1) := k_46 zcX6_woven rfl rfl
theorem dX6_woven_91 : decode cX6_woven 91 = .ok (.invokevirtual 109, 3) := k_182 zcX6_woven rfl rfl rfl
theorem dX6_woven_94 : decode cX6_woven 94 = .ok (.iinc 4 1, 3) := k_132 zcX6_woven rfl rfl rfl rfl
theorem dX6_woven_97 : decode cX6_woven 97 = .ok (.goto (-56), 3) := k_167 zcX6_woven rfl rfl rfl
theorem dX6_woven_100 : decode cX6_woven 100 = .ok (.aload_n 0, 1) := k_42 zcX6_woven rfl rfl
theorem dX6_woven_101 : decode cX6_woven 101 = .ok (.aload_n 0, 1) := k_42 zcX6_woven rfl rfl
theorem dX6_woven_102 : decode cX6_woven 102 = .ok (.getfield 16, 3) := k_180 zcX6_woven rfl rfl rfl
theorem dX6_woven_105 : decode cX6_woven 105 = .ok (.bipush 121, 2) := k_16 zcX6_woven rfl rfl rfl
theorem dX6_woven_107 : decode cX6_woven 107 = .ok (.iload_n 1, 1) := k_27 zcX6_woven rfl rfl
theorem dX6_woven_108 : decode cX6_woven 108 = .ok (.imul, 1) := k_104 zcX6_woven rfl rfl
theorem dX6_woven_109 : decode cX6_woven 109 = .ok (.iload 5, 2) := k_21 zcX6_woven rfl rfl rfl
theorem dX6_woven_111 : decode cX6_woven 111 = .ok (.iadd, 1) := k_96 zcX6_woven rfl rfl
theorem dX6_woven_112 : decode cX6_woven 112 = .ok (.iaload, 1) := k_46 zcX6_woven rfl rfl
theorem dX6_woven_113 : decode cX6_woven 113 = .ok (.invokevirtual 109, 3) := k_182 zcX6_woven rfl rfl rfl
theorem dX6_woven_116 : decode cX6_woven 116 = .ok (.iinc 5 1, 3) := k_132 zcX6_woven rfl rfl rfl rfl
theorem dX6_woven_119 : decode cX6_woven 119 = .ok (.goto (-88), 3) := k_167 zcX6_woven rfl rfl rfl
theorem dX6_woven_122 : decode cX6_woven 122 = .ok (.aload_n 0, 1) := k_42 zcX6_woven rfl rfl
theorem dX6_woven_123 : decode cX6_woven 123 = .ok (.iload_n 2, 1) := k_28 zcX6_woven rfl rfl
theorem dX6_woven_124 : decode cX6_woven 124 = .ok (.iload 4, 2) := k_21 zcX6_woven rfl rfl rfl
theorem dX6_woven_126 : decode cX6_woven 126 = .ok (.aload_n 0, 1) := k_42 zcX6_woven rfl rfl
theorem dX6_woven_127 : decode cX6_woven 127 = .ok (.iload_n 2, 1) := k_28 zcX6_woven rfl rfl
theorem dX6_woven_128 : decode cX6_woven 128 = .ok (.invokevirtual 116, 3) := k_182 zcX6_woven rfl rfl rfl
theorem dX6_woven_131 : decode cX6_woven 131 = .ok (.iconst 1, 1) := k_4 zcX6_woven rfl rfl
theorem dX6_woven_132 : decode cX6_woven 132 = .ok (.isub, 1) := k_100 zcX6_woven rfl rfl
theorem dX6_woven_133 : decode cX6_woven 133 = .ok (.invokevirtual 120, 3) := k_182 zcX6_woven rfl rfl rfl
theorem dX6_woven_136 : decode cX6_woven 136 = .ok (.aload_n 0, 1) := k_42 zcX6_woven rfl rfl
theorem dX6_woven_137 : decode cX6_woven 137 = .ok (.aload_n 0, 1) := k_42 zcX6_woven rfl rfl
theorem dX6_woven_138 : decode cX6_woven 138 = .ok (.iload_n 1, 1) := k_27 zcX6_woven rfl rfl
theorem dX6_woven_139 : decode cX6_woven 139 = .ok (.iconst 1, 1) := k_4 zcX6_woven rfl rfl
theorem dX6_woven_140 : decode cX6_woven 140 = .ok (.invokevirtual 80, 3) := k_182 zcX6_woven rfl rfl rfl
theorem dX6_woven_143 : decode cX6_woven 143 = .ok (.iload_n 3, 1) := k_29 zcX6_woven rfl rfl
theorem dX6_woven_144 : decode cX6_woven 144 = .ok (.invokevirtual 197, 3) := k_182 zcX6_woven rfl rfl rfl
theorem dX6_woven_147 : decode cX6_woven 147 = .ok (.ireturn, 1) := k_172 zcX6_woven rfl rfl
theorem dX6_same_0 : decode cX6_same 0 = .ok (.aload_n 0, 1) := k_42 zcX6_same rfl rfl
theorem dX6_same_1 : decode cX6_same 1 = .ok (.iload_n 1, 1) := k_27 zcX6_same rfl rfl
theorem dX6_same_2 : decode cX6_same 2 = .ok (.iload_n 2, 1) := k_28 zcX6_same rfl rfl
theorem dX6_same_3 : decode cX6_same 3 = .ok (.invokevirtual 280, 3) := k_182 zcX6_same rfl rfl rfl
theorem dX6_same_6 : decode cX6_same 6 = .ok (.ifCond .ne 5, 3) := k_154 zcX6_same rfl rfl rfl
theorem dX6_same_9 : decode cX6_same 9 = .ok (.iconst (-1), 1) := k_2 zcX6_same rfl rfl
theorem dX6_same_10 : decode cX6_same 10 = .ok (.ireturn, 1) := k_172 zcX6_same rfl rfl
theorem dX6_same_11 : decode cX6_same 11 = .ok (.aload_n 0, 1) := k_42 zcX6_same rfl rfl
theorem dX6_same_12 : decode cX6_same 12 = .ok (.iload_n 1, 1) := k_27 zcX6_same rfl rfl
theorem dX6_same_13 : decode cX6_same 13 = .ok (.invokevirtual 116, 3) := k_182 zcX6_same rfl rfl rfl
theorem dX6_same_16 : decode cX6_same 16 = .ok (.ifCond .eq 11, 3) := k_153 zcX6_same rfl rfl rfl
theorem dX6_same_19 : decode cX6_same 19 = .ok (.aload_n 0, 1) := k_42 zcX6_same rfl rfl
theorem dX6_same_20 : decode cX6_same 20 = .ok (.iload_n 2, 1) := k_28 zcX6_same rfl rfl
theorem dX6_same_21 : decode cX6_same 21 = .ok (.invokevirtual 116, 3) := k_182 zcX6_same rfl rfl rfl
theorem dX6_same_24 : decode cX6_same 24 = .ok (.ifCond .ne 22, 3) := k_154 zcX6_same rfl rfl rfl
theorem dX6_same_27 : decode cX6_same 27 = .ok (.aload_n 0, 1) := k_42 zcX6_same rfl rfl
theorem dX6_same_28 : decode cX6_same 28 = .ok (.iload_n 1, 1) := k_27 zcX6_same rfl rfl
theorem dX6_same_29 : decode cX6_same 29 = .ok (.invokevirtual 116, 3) := k_182 zcX6_same rfl rfl rfl
theorem dX6_same_32 : decode cX6_same 32 = .ok (.aload_n 0, 1) := k_42 zcX6_same rfl rfl
theorem dX6_same_33 : decode cX6_same 33 = .ok (.iload_n 2, 1) := k_28 zcX6_same rfl rfl
theorem dX6_same_34 : decode cX6_same 34 = .ok (.invokevirtual 116, 3) := k_182 zcX6_same rfl rfl rfl
theorem dX6_same_37 : decode cX6_same 37 = .ok (.if_icmp .ne 7, 3) := k_160 zcX6_same rfl rfl rfl
theorem dX6_same_40 : decode cX6_same 40 = .ok (.iconst 1, 1) := k_4 zcX6_same rfl rfl
theorem dX6_same_41 : decode cX6_same 41 = .ok (.goto 4, 3) := k_167 zcX6_same rfl rfl rfl
theorem dX6_same_44 : decode cX6_same 44 = .ok (.iconst 0, 1) := k_3 zcX6_same rfl rfl
theorem dX6_same_45 : decode cX6_same 45 = .ok (.ireturn, 1) := k_172 zcX6_same rfl rfl
theorem dX6_same_46 : decode cX6_same 46 = .ok (.aload_n 0, 1) := k_42 zcX6_same rfl rfl
theorem dX6_same_47 : decode cX6_same 47 = .ok (.iload_n 1, 1) := k_27 zcX6_same rfl rfl
theorem dX6_same_48 : decode cX6_same 48 = .ok (.invokevirtual 194, 3) := k_182 zcX6_same rfl rfl rfl
theorem dX6_same_51 : decode cX6_same 51 = .ok (.aload_n 0, 1) := k_42 zcX6_same rfl rfl
theorem dX6_same_52 : decode cX6_same 52 = .ok (.aload_n 0, 1) := k_42 zcX6_same rfl rfl
theorem dX6_same_53 : decode cX6_same 53 = .ok (.iload_n 1, 1) := k_27 zcX6_same rfl rfl
theorem dX6_same_54 : decode cX6_same 54 = .ok (.iconst 1, 1) := k_4 zcX6_same rfl rfl
theorem dX6_same_55 : decode cX6_same 55 = .ok (.invokevirtual 80, 3) := k_182 zcX6_same rfl rfl rfl
theorem dX6_same_58 : decode cX6_same 58 = .ok (.invokevirtual 161, 3) := k_182 zcX6_same rfl rfl rfl
theorem dX6_same_61 : decode cX6_same 61 = .ok (.aload_n 0, 1) := k_42 zcX6_same rfl rfl
theorem dX6_same_62 : decode cX6_same 62 = .ok (.aload_n 0, 1) := k_42 zcX6_same rfl rfl
theorem dX6_same_63 : decode cX6_same 63 = .ok (.iload_n 1, 1) := k_27 zcX6_same rfl rfl
theorem dX6_same_64 : decode cX6_same 64 = .ok (.iconst 1, 1) := k_4 zcX6_same rfl rfl
theorem dX6_same_65 : decode cX6_same 65 = .ok (.invokevirtual 80, 3) := k_182 zcX6_same rfl rfl rfl
theorem dX6_same_68 : decode cX6_same 68 = .ok (.invokevirtual 274, 3) := k_182 zcX6_same rfl rfl rfl
theorem dX6_same_71 : decode cX6_same 71 = .ok (.aload_n 0, 1) := k_42 zcX6_same rfl rfl
theorem dX6_same_72 : decode cX6_same 72 = .ok (.iload_n 2, 1) := k_28 zcX6_same rfl rfl
theorem dX6_same_73 : decode cX6_same 73 = .ok (.invokevirtual 194, 3) := k_182 zcX6_same rfl rfl rfl
theorem dX6_same_76 : decode cX6_same 76 = .ok (.aload_n 0, 1) := k_42 zcX6_same rfl rfl
theorem dX6_same_77 : decode cX6_same 77 = .ok (.aload_n 0, 1) := k_42 zcX6_same rfl rfl
theorem dX6_same_78 : decode cX6_same 78 = .ok (.iload_n 2, 1) := k_28 zcX6_same rfl rfl
theorem dX6_same_79 : decode cX6_same 79 = .ok (.iconst 1, 1) := k_4 zcX6_same rfl rfl
theorem dX6_same_80 : decode cX6_same 80 = .ok (.invokevirtual 80, 3) := k_182 zcX6_same rfl rfl rfl
theorem dX6_same_83 : decode cX6_same 83 = .ok (.invokevirtual 161, 3) := k_182 zcX6_same rfl rfl rfl
theorem dX6_same_86 : decode cX6_same 86 = .ok (.aload_n 0, 1) := k_42 zcX6_same rfl rfl
theorem dX6_same_87 : decode cX6_same 87 = .ok (.aload_n 0, 1) := k_42 zcX6_same rfl rfl
theorem dX6_same_88 : decode cX6_same 88 = .ok (.iload_n 2, 1) := k_28 zcX6_same rfl rfl
theorem dX6_same_89 : decode cX6_same 89 = .ok (.iconst 1, 1) := k_4 zcX6_same rfl rfl
theorem dX6_same_90 : decode cX6_same 90 = .ok (.invokevirtual 80, 3) := k_182 zcX6_same rfl rfl rfl
theorem dX6_same_93 : decode cX6_same 93 = .ok (.invokevirtual 277, 3) := k_182 zcX6_same rfl rfl rfl
theorem dX6_same_96 : decode cX6_same 96 = .ok (.ifCond .eq 7, 3) := k_153 zcX6_same rfl rfl rfl
theorem dX6_same_99 : decode cX6_same 99 = .ok (.iconst 1, 1) := k_4 zcX6_same rfl rfl
theorem dX6_same_100 : decode cX6_same 100 = .ok (.goto 4, 3) := k_167 zcX6_same rfl rfl rfl
theorem dX6_same_103 : decode cX6_same 103 = .ok (.iconst 0, 1) := k_3 zcX6_same rfl rfl
theorem dX6_same_104 : decode cX6_same 104 = .ok (.ireturn, 1) := k_172 zcX6_same rfl rfl
theorem dX6_law_0 : decode cX6_law 0 = .ok (.iload_n 2, 1) := k_28 zcX6_law rfl rfl
theorem dX6_law_1 : decode cX6_law 1 = .ok (.iconst 0, 1) := k_3 zcX6_law rfl rfl
theorem dX6_law_2 : decode cX6_law 2 = .ok (.iconst 2, 1) := k_5 zcX6_law rfl rfl
theorem dX6_law_3 : decode cX6_law 3 = .ok (.invokestatic 76, 3) := k_184 zcX6_law rfl rfl rfl
theorem dX6_law_6 : decode cX6_law 6 = .ok (.ifCond .eq 12, 3) := k_153 zcX6_law rfl rfl rfl
theorem dX6_law_9 : decode cX6_law 9 = .ok (.aload_n 0, 1) := k_42 zcX6_law rfl rfl
theorem dX6_law_10 : decode cX6_law 10 = .ok (.iload_n 1, 1) := k_27 zcX6_law rfl rfl
theorem dX6_law_11 : decode cX6_law 11 = .ok (.iload_n 3, 1) := k_29 zcX6_law rfl rfl
theorem dX6_law_12 : decode cX6_law 12 = .ok (.invokevirtual 283, 3) := k_182 zcX6_law rfl rfl rfl
theorem dX6_law_15 : decode cX6_law 15 = .ok (.goto 5, 3) := k_167 zcX6_law rfl rfl rfl
theorem dX6_law_18 : decode cX6_law 18 = .ok (.ldc 160, 2) := k_18 zcX6_law rfl rfl rfl
theorem dX6_law_20 : decode cX6_law 20 = .ok (.ireturn, 1) := k_172 zcX6_law rfl rfl
theorem dX6_layParts_0 : decode cX6_layParts 0 = .ok (.iconst 0, 1) := k_3 zcX6_layParts rfl rfl
theorem dX6_layParts_1 : decode cX6_layParts 1 = .ok (.istore_n 3, 1) := k_62 zcX6_layParts rfl rfl
theorem dX6_layParts_2 : decode cX6_layParts 2 = .ok (.iload_n 3, 1) := k_29 zcX6_layParts rfl rfl
theorem dX6_layParts_3 : decode cX6_layParts 3 = .ok (.aload_n 0, 1) := k_42 zcX6_layParts rfl rfl
theorem dX6_layParts_4 : decode cX6_layParts 4 = .ok (.iload_n 1, 1) := k_27 zcX6_layParts rfl rfl
theorem dX6_layParts_5 : decode cX6_layParts 5 = .ok (.invokevirtual 116, 3) := k_182 zcX6_layParts rfl rfl rfl
theorem dX6_layParts_8 : decode cX6_layParts 8 = .ok (.if_icmp .ge 49, 3) := k_162 zcX6_layParts rfl rfl rfl
theorem dX6_layParts_11 : decode cX6_layParts 11 = .ok (.iload_n 3, 1) := k_29 zcX6_layParts rfl rfl
theorem dX6_layParts_12 : decode cX6_layParts 12 = .ok (.istore 4, 2) := k_54 zcX6_layParts rfl rfl rfl
theorem dX6_layParts_14 : decode cX6_layParts 14 = .ok (.iload 4, 2) := k_21 zcX6_layParts rfl rfl rfl
theorem dX6_layParts_16 : decode cX6_layParts 16 = .ok (.aload_n 0, 1) := k_42 zcX6_layParts rfl rfl
theorem dX6_layParts_17 : decode cX6_layParts 17 = .ok (.iload_n 1, 1) := k_27 zcX6_layParts rfl rfl
theorem dX6_layParts_18 : decode cX6_layParts 18 = .ok (.invokevirtual 116, 3) := k_182 zcX6_layParts rfl rfl rfl
theorem dX6_layParts_21 : decode cX6_layParts 21 = .ok (.if_icmp .ge 30, 3) := k_162 zcX6_layParts rfl rfl rfl
theorem dX6_layParts_24 : decode cX6_layParts 24 = .ok (.aload_n 0, 1) := k_42 zcX6_layParts rfl rfl
theorem dX6_layParts_25 : decode cX6_layParts 25 = .ok (.getfield 67, 3) := k_180 zcX6_layParts rfl rfl rfl
theorem dX6_layParts_28 : decode cX6_layParts 28 = .ok (.bipush 120, 2) := k_16 zcX6_layParts rfl rfl rfl
theorem dX6_layParts_30 : decode cX6_layParts 30 = .ok (.iload_n 3, 1) := k_29 zcX6_layParts rfl rfl
theorem dX6_layParts_31 : decode cX6_layParts 31 = .ok (.imul, 1) := k_104 zcX6_layParts rfl rfl
theorem dX6_layParts_32 : decode cX6_layParts 32 = .ok (.iload 4, 2) := k_21 zcX6_layParts rfl rfl rfl
theorem dX6_layParts_34 : decode cX6_layParts 34 = .ok (.iadd, 1) := k_96 zcX6_layParts rfl rfl
theorem dX6_layParts_35 : decode cX6_layParts 35 = .ok (.aload_n 0, 1) := k_42 zcX6_layParts rfl rfl
theorem dX6_layParts_36 : decode cX6_layParts 36 = .ok (.iload_n 1, 1) := k_27 zcX6_layParts rfl rfl
theorem dX6_layParts_37 : decode cX6_layParts 37 = .ok (.iload_n 3, 1) := k_29 zcX6_layParts rfl rfl
theorem dX6_layParts_38 : decode cX6_layParts 38 = .ok (.iload 4, 2) := k_21 zcX6_layParts rfl rfl rfl
theorem dX6_layParts_40 : decode cX6_layParts 40 = .ok (.iload_n 2, 1) := k_28 zcX6_layParts rfl rfl
theorem dX6_layParts_41 : decode cX6_layParts 41 = .ok (.invokevirtual 243, 3) := k_182 zcX6_layParts rfl rfl rfl
theorem dX6_layParts_44 : decode cX6_layParts 44 = .ok (.iastore, 1) := k_79 zcX6_layParts rfl rfl
theorem dX6_layParts_45 : decode cX6_layParts 45 = .ok (.iinc 4 1, 3) := k_132 zcX6_layParts rfl rfl rfl rfl
theorem dX6_layParts_48 : decode cX6_layParts 48 = .ok (.goto (-34), 3) := k_167 zcX6_layParts rfl rfl rfl
theorem dX6_layParts_51 : decode cX6_layParts 51 = .ok (.iinc 3 1, 3) := k_132 zcX6_layParts rfl rfl rfl rfl
theorem dX6_layParts_54 : decode cX6_layParts 54 = .ok (.goto (-52), 3) := k_167 zcX6_layParts rfl rfl rfl
theorem dX6_layParts_57 : decode cX6_layParts 57 = .ok (.return_, 1) := k_177 zcX6_layParts rfl rfl
theorem dX6_shortest_0 : decode cX6_shortest 0 = .ok (.aload_n 0, 1) := k_42 zcX6_shortest rfl rfl
theorem dX6_shortest_1 : decode cX6_shortest 1 = .ok (.iload_n 1, 1) := k_27 zcX6_shortest rfl rfl
theorem dX6_shortest_2 : decode cX6_shortest 2 = .ok (.iload_n 2, 1) := k_28 zcX6_shortest rfl rfl
theorem dX6_shortest_3 : decode cX6_shortest 3 = .ok (.invokevirtual 207, 3) := k_182 zcX6_shortest rfl rfl rfl
theorem dX6_shortest_6 : decode cX6_shortest 6 = .ok (.ifCond .eq 13, 3) := k_153 zcX6_shortest rfl rfl rfl
theorem dX6_shortest_9 : decode cX6_shortest 9 = .ok (.iload 4, 2) := k_21 zcX6_shortest rfl rfl rfl
theorem dX6_shortest_11 : decode cX6_shortest 11 = .ok (.iconst 0, 1) := k_3 zcX6_shortest rfl rfl
theorem dX6_shortest_12 : decode cX6_shortest 12 = .ok (.iconst 1, 1) := k_4 zcX6_shortest rfl rfl
theorem dX6_shortest_13 : decode cX6_shortest 13 = .ok (.invokestatic 76, 3) := k_184 zcX6_shortest rfl rfl rfl
theorem dX6_shortest_16 : decode cX6_shortest 16 = .ok (.ifCond .ne 5, 3) := k_154 zcX6_shortest rfl rfl rfl
theorem dX6_shortest_19 : decode cX6_shortest 19 = .ok (.iconst (-1), 1) := k_2 zcX6_shortest rfl rfl
theorem dX6_shortest_20 : decode cX6_shortest 20 = .ok (.ireturn, 1) := k_172 zcX6_shortest rfl rfl
theorem dX6_shortest_21 : decode cX6_shortest 21 = .ok (.aload_n 0, 1) := k_42 zcX6_shortest rfl rfl
theorem dX6_shortest_22 : decode cX6_shortest 22 = .ok (.iload_n 1, 1) := k_27 zcX6_shortest rfl rfl
theorem dX6_shortest_23 : decode cX6_shortest 23 = .ok (.iload_n 2, 1) := k_28 zcX6_shortest rfl rfl
theorem dX6_shortest_24 : decode cX6_shortest 24 = .ok (.invokevirtual 286, 3) := k_182 zcX6_shortest rfl rfl rfl
theorem dX6_shortest_27 : decode cX6_shortest 27 = .ok (.iconst 1, 1) := k_4 zcX6_shortest rfl rfl
theorem dX6_shortest_28 : decode cX6_shortest 28 = .ok (.istore 5, 2) := k_54 zcX6_shortest rfl rfl rfl
theorem dX6_shortest_30 : decode cX6_shortest 30 = .ok (.iload 5, 2) := k_21 zcX6_shortest rfl rfl rfl
theorem dX6_shortest_32 : decode cX6_shortest 32 = .ok (.aload_n 0, 1) := k_42 zcX6_shortest rfl rfl
theorem dX6_shortest_33 : decode cX6_shortest 33 = .ok (.iload_n 1, 1) := k_27 zcX6_shortest rfl rfl
theorem dX6_shortest_34 : decode cX6_shortest 34 = .ok (.invokevirtual 116, 3) := k_182 zcX6_shortest rfl rfl rfl
theorem dX6_shortest_37 : decode cX6_shortest 37 = .ok (.if_icmp .gt 69, 3) := k_163 zcX6_shortest rfl rfl rfl
theorem dX6_shortest_40 : decode cX6_shortest 40 = .ok (.iconst 0, 1) := k_3 zcX6_shortest rfl rfl
theorem dX6_shortest_41 : decode cX6_shortest 41 = .ok (.istore 6, 2) := k_54 zcX6_shortest rfl rfl rfl
theorem dX6_shortest_43 : decode cX6_shortest 43 = .ok (.iload 6, 2) := k_21 zcX6_shortest rfl rfl rfl
theorem dX6_shortest_45 : decode cX6_shortest 45 = .ok (.iload 5, 2) := k_21 zcX6_shortest rfl rfl rfl
theorem dX6_shortest_47 : decode cX6_shortest 47 = .ok (.iadd, 1) := k_96 zcX6_shortest rfl rfl
theorem dX6_shortest_48 : decode cX6_shortest 48 = .ok (.aload_n 0, 1) := k_42 zcX6_shortest rfl rfl
theorem dX6_shortest_49 : decode cX6_shortest 49 = .ok (.iload_n 1, 1) := k_27 zcX6_shortest rfl rfl
theorem dX6_shortest_50 : decode cX6_shortest 50 = .ok (.invokevirtual 116, 3) := k_182 zcX6_shortest rfl rfl rfl
theorem dX6_shortest_53 : decode cX6_shortest 53 = .ok (.if_icmp .gt 47, 3) := k_163 zcX6_shortest rfl rfl rfl
theorem dX6_shortest_56 : decode cX6_shortest 56 = .ok (.aload_n 0, 1) := k_42 zcX6_shortest rfl rfl
theorem dX6_shortest_57 : decode cX6_shortest 57 = .ok (.getfield 67, 3) := k_180 zcX6_shortest rfl rfl rfl
theorem dX6_shortest_60 : decode cX6_shortest 60 = .ok (.bipush 120, 2) := k_16 zcX6_shortest rfl rfl rfl
theorem dX6_shortest_62 : decode cX6_shortest 62 = .ok (.iload 6, 2) := k_21 zcX6_shortest rfl rfl rfl
theorem dX6_shortest_64 : decode cX6_shortest 64 = .ok (.imul, 1) := k_104 zcX6_shortest rfl rfl
theorem dX6_shortest_65 : decode cX6_shortest 65 = .ok (.iload 6, 2) := k_21 zcX6_shortest rfl rfl rfl
theorem dX6_shortest_67 : decode cX6_shortest 67 = .ok (.iadd, 1) := k_96 zcX6_shortest rfl rfl
theorem dX6_shortest_68 : decode cX6_shortest 68 = .ok (.iload 5, 2) := k_21 zcX6_shortest rfl rfl rfl
theorem dX6_shortest_70 : decode cX6_shortest 70 = .ok (.iadd, 1) := k_96 zcX6_shortest rfl rfl
theorem dX6_shortest_71 : decode cX6_shortest 71 = .ok (.iconst 1, 1) := k_4 zcX6_shortest rfl rfl
theorem dX6_shortest_72 : decode cX6_shortest 72 = .ok (.isub, 1) := k_100 zcX6_shortest rfl rfl
theorem dX6_shortest_73 : decode cX6_shortest 73 = .ok (.iaload, 1) := k_46 zcX6_shortest rfl rfl
theorem dX6_shortest_74 : decode cX6_shortest 74 = .ok (.iload_n 3, 1) := k_29 zcX6_shortest rfl rfl
theorem dX6_shortest_75 : decode cX6_shortest 75 = .ok (.invokestatic 200, 3) := k_184 zcX6_shortest rfl rfl rfl
theorem dX6_shortest_78 : decode cX6_shortest 78 = .ok (.ifCond .eq 16, 3) := k_153 zcX6_shortest rfl rfl rfl
theorem dX6_shortest_81 : decode cX6_shortest 81 = .ok (.iload 4, 2) := k_21 zcX6_shortest rfl rfl rfl
theorem dX6_shortest_83 : decode cX6_shortest 83 = .ok (.ifCond .ne 8, 3) := k_154 zcX6_shortest rfl rfl rfl
theorem dX6_shortest_86 : decode cX6_shortest 86 = .ok (.iload 5, 2) := k_21 zcX6_shortest rfl rfl rfl
theorem dX6_shortest_88 : decode cX6_shortest 88 = .ok (.goto 5, 3) := k_167 zcX6_shortest rfl rfl rfl
theorem dX6_shortest_91 : decode cX6_shortest 91 = .ok (.iload 6, 2) := k_21 zcX6_shortest rfl rfl rfl
theorem dX6_shortest_93 : decode cX6_shortest 93 = .ok (.ireturn, 1) := k_172 zcX6_shortest rfl rfl
theorem dX6_shortest_94 : decode cX6_shortest 94 = .ok (.iinc 6 1, 3) := k_132 zcX6_shortest rfl rfl rfl rfl
theorem dX6_shortest_97 : decode cX6_shortest 97 = .ok (.goto (-54), 3) := k_167 zcX6_shortest rfl rfl rfl
theorem dX6_shortest_100 : decode cX6_shortest 100 = .ok (.iinc 5 1, 3) := k_132 zcX6_shortest rfl rfl rfl rfl
theorem dX6_shortest_103 : decode cX6_shortest 103 = .ok (.goto (-73), 3) := k_167 zcX6_shortest rfl rfl rfl
theorem dX6_shortest_106 : decode cX6_shortest 106 = .ok (.iconst (-1), 1) := k_2 zcX6_shortest rfl rfl
theorem dX6_shortest_107 : decode cX6_shortest 107 = .ok (.ireturn, 1) := k_172 zcX6_shortest rfl rfl
theorem dX6_windows_0 : decode cX6_windows 0 = .ok (.aload_n 0, 1) := k_42 zcX6_windows rfl rfl
theorem dX6_windows_1 : decode cX6_windows 1 = .ok (.iload_n 1, 1) := k_27 zcX6_windows rfl rfl
theorem dX6_windows_2 : decode cX6_windows 2 = .ok (.iload_n 2, 1) := k_28 zcX6_windows rfl rfl
theorem dX6_windows_3 : decode cX6_windows 3 = .ok (.invokevirtual 207, 3) := k_182 zcX6_windows rfl rfl rfl
theorem dX6_windows_6 : decode cX6_windows 6 = .ok (.ifCond .ne 5, 3) := k_154 zcX6_windows rfl rfl rfl
theorem dX6_windows_9 : decode cX6_windows 9 = .ok (.iconst (-1), 1) := k_2 zcX6_windows rfl rfl
theorem dX6_windows_10 : decode cX6_windows 10 = .ok (.ireturn, 1) := k_172 zcX6_windows rfl rfl
theorem dX6_windows_11 : decode cX6_windows 11 = .ok (.aload_n 0, 1) := k_42 zcX6_windows rfl rfl
theorem dX6_windows_12 : decode cX6_windows 12 = .ok (.iload_n 1, 1) := k_27 zcX6_windows rfl rfl
theorem dX6_windows_13 : decode cX6_windows 13 = .ok (.iload_n 2, 1) := k_28 zcX6_windows rfl rfl
theorem dX6_windows_14 : decode cX6_windows 14 = .ok (.invokevirtual 286, 3) := k_182 zcX6_windows rfl rfl rfl
theorem dX6_windows_17 : decode cX6_windows 17 = .ok (.iconst 0, 1) := k_3 zcX6_windows rfl rfl
theorem dX6_windows_18 : decode cX6_windows 18 = .ok (.istore 5, 2) := k_54 zcX6_windows rfl rfl rfl
theorem dX6_windows_20 : decode cX6_windows 20 = .ok (.iconst 0, 1) := k_3 zcX6_windows rfl rfl
theorem dX6_windows_21 : decode cX6_windows 21 = .ok (.istore 6, 2) := k_54 zcX6_windows rfl rfl rfl
theorem dX6_windows_23 : decode cX6_windows 23 = .ok (.iload 6, 2) := k_21 zcX6_windows rfl rfl rfl
theorem dX6_windows_25 : decode cX6_windows 25 = .ok (.aload_n 0, 1) := k_42 zcX6_windows rfl rfl
theorem dX6_windows_26 : decode cX6_windows 26 = .ok (.iload_n 1, 1) := k_27 zcX6_windows rfl rfl
theorem dX6_windows_27 : decode cX6_windows 27 = .ok (.invokevirtual 116, 3) := k_182 zcX6_windows rfl rfl rfl
theorem dX6_windows_30 : decode cX6_windows 30 = .ok (.if_icmp .ge 72, 3) := k_162 zcX6_windows rfl rfl rfl
theorem dX6_windows_33 : decode cX6_windows 33 = .ok (.iload 6, 2) := k_21 zcX6_windows rfl rfl rfl
theorem dX6_windows_35 : decode cX6_windows 35 = .ok (.istore 7, 2) := k_54 zcX6_windows rfl rfl rfl
theorem dX6_windows_37 : decode cX6_windows 37 = .ok (.iload 7, 2) := k_21 zcX6_windows rfl rfl rfl
theorem dX6_windows_39 : decode cX6_windows 39 = .ok (.aload_n 0, 1) := k_42 zcX6_windows rfl rfl
theorem dX6_windows_40 : decode cX6_windows 40 = .ok (.iload_n 1, 1) := k_27 zcX6_windows rfl rfl
theorem dX6_windows_41 : decode cX6_windows 41 = .ok (.invokevirtual 116, 3) := k_182 zcX6_windows rfl rfl rfl
theorem dX6_windows_44 : decode cX6_windows 44 = .ok (.if_icmp .ge 52, 3) := k_162 zcX6_windows rfl rfl rfl
theorem dX6_windows_47 : decode cX6_windows 47 = .ok (.aload_n 0, 1) := k_42 zcX6_windows rfl rfl
theorem dX6_windows_48 : decode cX6_windows 48 = .ok (.getfield 67, 3) := k_180 zcX6_windows rfl rfl rfl
theorem dX6_windows_51 : decode cX6_windows 51 = .ok (.bipush 120, 2) := k_16 zcX6_windows rfl rfl rfl
theorem dX6_windows_53 : decode cX6_windows 53 = .ok (.iload 6, 2) := k_21 zcX6_windows rfl rfl rfl
theorem dX6_windows_55 : decode cX6_windows 55 = .ok (.imul, 1) := k_104 zcX6_windows rfl rfl
theorem dX6_windows_56 : decode cX6_windows 56 = .ok (.iload 7, 2) := k_21 zcX6_windows rfl rfl rfl
theorem dX6_windows_58 : decode cX6_windows 58 = .ok (.iadd, 1) := k_96 zcX6_windows rfl rfl
theorem dX6_windows_59 : decode cX6_windows 59 = .ok (.iaload, 1) := k_46 zcX6_windows rfl rfl
theorem dX6_windows_60 : decode cX6_windows 60 = .ok (.istore 8, 2) := k_54 zcX6_windows rfl rfl rfl
theorem dX6_windows_62 : decode cX6_windows 62 = .ok (.iload 5, 2) := k_21 zcX6_windows rfl rfl rfl
theorem dX6_windows_64 : decode cX6_windows 64 = .ok (.iload 8, 2) := k_21 zcX6_windows rfl rfl rfl
theorem dX6_windows_66 : decode cX6_windows 66 = .ok (.ldc 160, 2) := k_18 zcX6_windows rfl rfl rfl
theorem dX6_windows_68 : decode cX6_windows 68 = .ok (.if_icmp .eq 18, 3) := k_159 zcX6_windows rfl rfl rfl
theorem dX6_windows_71 : decode cX6_windows 71 = .ok (.iload 8, 2) := k_21 zcX6_windows rfl rfl rfl
theorem dX6_windows_73 : decode cX6_windows 73 = .ok (.iload_n 3, 1) := k_29 zcX6_windows rfl rfl
theorem dX6_windows_74 : decode cX6_windows 74 = .ok (.iload 4, 2) := k_21 zcX6_windows rfl rfl rfl
theorem dX6_windows_76 : decode cX6_windows 76 = .ok (.invokestatic 76, 3) := k_184 zcX6_windows rfl rfl rfl
theorem dX6_windows_79 : decode cX6_windows 79 = .ok (.ifCond .eq 7, 3) := k_153 zcX6_windows rfl rfl rfl
theorem dX6_windows_82 : decode cX6_windows 82 = .ok (.iconst 1, 1) := k_4 zcX6_windows rfl rfl
theorem dX6_windows_83 : decode cX6_windows 83 = .ok (.goto 4, 3) := k_167 zcX6_windows rfl rfl rfl
theorem dX6_windows_86 : decode cX6_windows 86 = .ok (.iconst 0, 1) := k_3 zcX6_windows rfl rfl
theorem dX6_windows_87 : decode cX6_windows 87 = .ok (.iadd, 1) := k_96 zcX6_windows rfl rfl
theorem dX6_windows_88 : decode cX6_windows 88 = .ok (.istore 5, 2) := k_54 zcX6_windows rfl rfl rfl
theorem dX6_windows_90 : decode cX6_windows 90 = .ok (.iinc 7 1, 3) := k_132 zcX6_windows rfl rfl rfl rfl
theorem dX6_windows_93 : decode cX6_windows 93 = .ok (.goto (-56), 3) := k_167 zcX6_windows rfl rfl rfl
theorem dX6_windows_96 : decode cX6_windows 96 = .ok (.iinc 6 1, 3) := k_132 zcX6_windows rfl rfl rfl rfl
theorem dX6_windows_99 : decode cX6_windows 99 = .ok (.goto (-76), 3) := k_167 zcX6_windows rfl rfl rfl
theorem dX6_windows_102 : decode cX6_windows 102 = .ok (.iload 5, 2) := k_21 zcX6_windows rfl rfl rfl
theorem dX6_windows_104 : decode cX6_windows 104 = .ok (.ireturn, 1) := k_172 zcX6_windows rfl rfl
theorem dX6_layRow_0 : decode cX6_layRow 0 = .ok (.bipush 121, 2) := k_16 zcX6_layRow rfl rfl rfl
theorem dX6_layRow_2 : decode cX6_layRow 2 = .ok (.iload_n 2, 1) := k_28 zcX6_layRow rfl rfl
theorem dX6_layRow_3 : decode cX6_layRow 3 = .ok (.imul, 1) := k_104 zcX6_layRow rfl rfl
theorem dX6_layRow_4 : decode cX6_layRow 4 = .ok (.iload_n 3, 1) := k_29 zcX6_layRow rfl rfl
theorem dX6_layRow_5 : decode cX6_layRow 5 = .ok (.iadd, 1) := k_96 zcX6_layRow rfl rfl
theorem dX6_layRow_6 : decode cX6_layRow 6 = .ok (.istore 4, 2) := k_54 zcX6_layRow rfl rfl rfl
theorem dX6_layRow_8 : decode cX6_layRow 8 = .ok (.aload_n 0, 1) := k_42 zcX6_layRow rfl rfl
theorem dX6_layRow_9 : decode cX6_layRow 9 = .ok (.getfield 70, 3) := k_180 zcX6_layRow rfl rfl rfl
theorem dX6_layRow_12 : decode cX6_layRow 12 = .ok (.iload 4, 2) := k_21 zcX6_layRow rfl rfl rfl
theorem dX6_layRow_14 : decode cX6_layRow 14 = .ok (.ldc 160, 2) := k_18 zcX6_layRow rfl rfl rfl
theorem dX6_layRow_16 : decode cX6_layRow 16 = .ok (.iastore, 1) := k_79 zcX6_layRow rfl rfl
theorem dX6_layRow_17 : decode cX6_layRow 17 = .ok (.aload_n 0, 1) := k_42 zcX6_layRow rfl rfl
theorem dX6_layRow_18 : decode cX6_layRow 18 = .ok (.getfield 73, 3) := k_180 zcX6_layRow rfl rfl rfl
theorem dX6_layRow_21 : decode cX6_layRow 21 = .ok (.iload 4, 2) := k_21 zcX6_layRow rfl rfl rfl
theorem dX6_layRow_23 : decode cX6_layRow 23 = .ok (.aload_n 0, 1) := k_42 zcX6_layRow rfl rfl
theorem dX6_layRow_24 : decode cX6_layRow 24 = .ok (.iload_n 1, 1) := k_27 zcX6_layRow rfl rfl
theorem dX6_layRow_25 : decode cX6_layRow 25 = .ok (.invokevirtual 116, 3) := k_182 zcX6_layRow rfl rfl rfl
theorem dX6_layRow_28 : decode cX6_layRow 28 = .ok (.iastore, 1) := k_79 zcX6_layRow rfl rfl
theorem dX6_layRow_29 : decode cX6_layRow 29 = .ok (.iload_n 3, 1) := k_29 zcX6_layRow rfl rfl
theorem dX6_layRow_30 : decode cX6_layRow 30 = .ok (.istore 5, 2) := k_54 zcX6_layRow rfl rfl rfl
theorem dX6_layRow_32 : decode cX6_layRow 32 = .ok (.iload 5, 2) := k_21 zcX6_layRow rfl rfl rfl
theorem dX6_layRow_34 : decode cX6_layRow 34 = .ok (.aload_n 0, 1) := k_42 zcX6_layRow rfl rfl
theorem dX6_layRow_35 : decode cX6_layRow 35 = .ok (.iload_n 1, 1) := k_27 zcX6_layRow rfl rfl
theorem dX6_layRow_36 : decode cX6_layRow 36 = .ok (.invokevirtual 116, 3) := k_182 zcX6_layRow rfl rfl rfl
theorem dX6_layRow_39 : decode cX6_layRow 39 = .ok (.if_icmp .ge 134, 3) := k_162 zcX6_layRow rfl rfl rfl
theorem dX6_layRow_42 : decode cX6_layRow 42 = .ok (.aload_n 0, 1) := k_42 zcX6_layRow rfl rfl
theorem dX6_layRow_43 : decode cX6_layRow 43 = .ok (.getfield 67, 3) := k_180 zcX6_layRow rfl rfl rfl
theorem dX6_layRow_46 : decode cX6_layRow 46 = .ok (.bipush 120, 2) := k_16 zcX6_layRow rfl rfl rfl
theorem dX6_layRow_48 : decode cX6_layRow 48 = .ok (.iload_n 3, 1) := k_29 zcX6_layRow rfl rfl
theorem dX6_layRow_49 : decode cX6_layRow 49 = .ok (.imul, 1) := k_104 zcX6_layRow rfl rfl
theorem dX6_layRow_50 : decode cX6_layRow 50 = .ok (.iload 5, 2) := k_21 zcX6_layRow rfl rfl rfl
theorem dX6_layRow_52 : decode cX6_layRow 52 = .ok (.iadd, 1) := k_96 zcX6_layRow rfl rfl
theorem dX6_layRow_53 : decode cX6_layRow 53 = .ok (.iaload, 1) := k_46 zcX6_layRow rfl rfl
theorem dX6_layRow_54 : decode cX6_layRow 54 = .ok (.istore 6, 2) := k_54 zcX6_layRow rfl rfl rfl
theorem dX6_layRow_56 : decode cX6_layRow 56 = .ok (.iload_n 2, 1) := k_28 zcX6_layRow rfl rfl
theorem dX6_layRow_57 : decode cX6_layRow 57 = .ok (.iconst 1, 1) := k_4 zcX6_layRow rfl rfl
theorem dX6_layRow_58 : decode cX6_layRow 58 = .ok (.if_icmp .ne 24, 3) := k_160 zcX6_layRow rfl rfl rfl
theorem dX6_layRow_61 : decode cX6_layRow 61 = .ok (.iload 5, 2) := k_21 zcX6_layRow rfl rfl rfl
theorem dX6_layRow_63 : decode cX6_layRow 63 = .ok (.aload_n 0, 1) := k_42 zcX6_layRow rfl rfl
theorem dX6_layRow_64 : decode cX6_layRow 64 = .ok (.iload_n 1, 1) := k_27 zcX6_layRow rfl rfl
theorem dX6_layRow_65 : decode cX6_layRow 65 = .ok (.invokevirtual 116, 3) := k_182 zcX6_layRow rfl rfl rfl
theorem dX6_layRow_68 : decode cX6_layRow 68 = .ok (.iconst 1, 1) := k_4 zcX6_layRow rfl rfl
theorem dX6_layRow_69 : decode cX6_layRow 69 = .ok (.isub, 1) := k_100 zcX6_layRow rfl rfl
theorem dX6_layRow_70 : decode cX6_layRow 70 = .ok (.if_icmp .ne 7, 3) := k_160 zcX6_layRow rfl rfl rfl
theorem dX6_layRow_73 : decode cX6_layRow 73 = .ok (.iconst 0, 1) := k_3 zcX6_layRow rfl rfl
theorem dX6_layRow_74 : decode cX6_layRow 74 = .ok (.goto 24, 3) := k_167 zcX6_layRow rfl rfl rfl
theorem dX6_layRow_77 : decode cX6_layRow 77 = .ok (.ldc 160, 2) := k_18 zcX6_layRow rfl rfl rfl
theorem dX6_layRow_79 : decode cX6_layRow 79 = .ok (.goto 19, 3) := k_167 zcX6_layRow rfl rfl rfl
theorem dX6_layRow_82 : decode cX6_layRow 82 = .ok (.aload_n 0, 1) := k_42 zcX6_layRow rfl rfl
theorem dX6_layRow_83 : decode cX6_layRow 83 = .ok (.getfield 70, 3) := k_180 zcX6_layRow rfl rfl rfl
theorem dX6_layRow_86 : decode cX6_layRow 86 = .ok (.bipush 121, 2) := k_16 zcX6_layRow rfl rfl rfl
theorem dX6_layRow_88 : decode cX6_layRow 88 = .ok (.iload_n 2, 1) := k_28 zcX6_layRow rfl rfl
theorem dX6_layRow_89 : decode cX6_layRow 89 = .ok (.iconst 1, 1) := k_4 zcX6_layRow rfl rfl
theorem dX6_layRow_90 : decode cX6_layRow 90 = .ok (.isub, 1) := k_100 zcX6_layRow rfl rfl
theorem dX6_layRow_91 : decode cX6_layRow 91 = .ok (.imul, 1) := k_104 zcX6_layRow rfl rfl
theorem dX6_layRow_92 : decode cX6_layRow 92 = .ok (.iload 5, 2) := k_21 zcX6_layRow rfl rfl rfl
theorem dX6_layRow_94 : decode cX6_layRow 94 = .ok (.iadd, 1) := k_96 zcX6_layRow rfl rfl
theorem dX6_layRow_95 : decode cX6_layRow 95 = .ok (.iconst 1, 1) := k_4 zcX6_layRow rfl rfl
theorem dX6_layRow_96 : decode cX6_layRow 96 = .ok (.iadd, 1) := k_96 zcX6_layRow rfl rfl
theorem dX6_layRow_97 : decode cX6_layRow 97 = .ok (.iaload, 1) := k_46 zcX6_layRow rfl rfl
theorem dX6_layRow_98 : decode cX6_layRow 98 = .ok (.istore 7, 2) := k_54 zcX6_layRow rfl rfl rfl
theorem dX6_layRow_100 : decode cX6_layRow 100 = .ok (.iload 6, 2) := k_21 zcX6_layRow rfl rfl rfl
theorem dX6_layRow_102 : decode cX6_layRow 102 = .ok (.ldc 160, 2) := k_18 zcX6_layRow rfl rfl rfl
theorem dX6_layRow_104 : decode cX6_layRow 104 = .ok (.if_icmp .eq 63, 3) := k_159 zcX6_layRow rfl rfl rfl
theorem dX6_layRow_107 : decode cX6_layRow 107 = .ok (.iload 7, 2) := k_21 zcX6_layRow rfl rfl rfl
theorem dX6_layRow_109 : decode cX6_layRow 109 = .ok (.ldc 160, 2) := k_18 zcX6_layRow rfl rfl rfl
theorem dX6_layRow_111 : decode cX6_layRow 111 = .ok (.if_icmp .eq 56, 3) := k_159 zcX6_layRow rfl rfl rfl
theorem dX6_layRow_114 : decode cX6_layRow 114 = .ok (.aload_n 0, 1) := k_42 zcX6_layRow rfl rfl
theorem dX6_layRow_115 : decode cX6_layRow 115 = .ok (.getfield 70, 3) := k_180 zcX6_layRow rfl rfl rfl
theorem dX6_layRow_118 : decode cX6_layRow 118 = .ok (.iload 4, 2) := k_21 zcX6_layRow rfl rfl rfl
theorem dX6_layRow_120 : decode cX6_layRow 120 = .ok (.iaload, 1) := k_46 zcX6_layRow rfl rfl
theorem dX6_layRow_121 : decode cX6_layRow 121 = .ok (.ldc 160, 2) := k_18 zcX6_layRow rfl rfl rfl
theorem dX6_layRow_123 : decode cX6_layRow 123 = .ok (.if_icmp .eq 21, 3) := k_159 zcX6_layRow rfl rfl rfl
theorem dX6_layRow_126 : decode cX6_layRow 126 = .ok (.iload 6, 2) := k_21 zcX6_layRow rfl rfl rfl
theorem dX6_layRow_128 : decode cX6_layRow 128 = .ok (.iload 7, 2) := k_21 zcX6_layRow rfl rfl rfl
theorem dX6_layRow_130 : decode cX6_layRow 130 = .ok (.iadd, 1) := k_96 zcX6_layRow rfl rfl
theorem dX6_layRow_131 : decode cX6_layRow 131 = .ok (.aload_n 0, 1) := k_42 zcX6_layRow rfl rfl
theorem dX6_layRow_132 : decode cX6_layRow 132 = .ok (.getfield 70, 3) := k_180 zcX6_layRow rfl rfl rfl
theorem dX6_layRow_135 : decode cX6_layRow 135 = .ok (.iload 4, 2) := k_21 zcX6_layRow rfl rfl rfl
theorem dX6_layRow_137 : decode cX6_layRow 137 = .ok (.iaload, 1) := k_46 zcX6_layRow rfl rfl
theorem dX6_layRow_138 : decode cX6_layRow 138 = .ok (.if_icmp .gt 6, 3) := k_163 zcX6_layRow rfl rfl rfl
theorem dX6_layRow_141 : decode cX6_layRow 141 = .ok (.goto 26, 3) := k_167 zcX6_layRow rfl rfl rfl
theorem dX6_layRow_144 : decode cX6_layRow 144 = .ok (.aload_n 0, 1) := k_42 zcX6_layRow rfl rfl
theorem dX6_layRow_145 : decode cX6_layRow 145 = .ok (.getfield 70, 3) := k_180 zcX6_layRow rfl rfl rfl
theorem dX6_layRow_148 : decode cX6_layRow 148 = .ok (.iload 4, 2) := k_21 zcX6_layRow rfl rfl rfl
theorem dX6_layRow_150 : decode cX6_layRow 150 = .ok (.iload 6, 2) := k_21 zcX6_layRow rfl rfl rfl
theorem dX6_layRow_152 : decode cX6_layRow 152 = .ok (.iload 7, 2) := k_21 zcX6_layRow rfl rfl rfl
theorem dX6_layRow_154 : decode cX6_layRow 154 = .ok (.iadd, 1) := k_96 zcX6_layRow rfl rfl
theorem dX6_layRow_155 : decode cX6_layRow 155 = .ok (.iastore, 1) := k_79 zcX6_layRow rfl rfl
theorem dX6_layRow_156 : decode cX6_layRow 156 = .ok (.aload_n 0, 1) := k_42 zcX6_layRow rfl rfl
theorem dX6_layRow_157 : decode cX6_layRow 157 = .ok (.getfield 73, 3) := k_180 zcX6_layRow rfl rfl rfl
theorem dX6_layRow_160 : decode cX6_layRow 160 = .ok (.iload 4, 2) := k_21 zcX6_layRow rfl rfl rfl
theorem dX6_layRow_162 : decode cX6_layRow 162 = .ok (.iload 5, 2) := k_21 zcX6_layRow rfl rfl rfl
theorem dX6_layRow_164 : decode cX6_layRow 164 = .ok (.iconst 1, 1) := k_4 zcX6_layRow rfl rfl
theorem dX6_layRow_165 : decode cX6_layRow 165 = .ok (.iadd, 1) := k_96 zcX6_layRow rfl rfl
theorem dX6_layRow_166 : decode cX6_layRow 166 = .ok (.iastore, 1) := k_79 zcX6_layRow rfl rfl
theorem dX6_layRow_167 : decode cX6_layRow 167 = .ok (.iinc 5 1, 3) := k_132 zcX6_layRow rfl rfl rfl rfl
theorem dX6_layRow_170 : decode cX6_layRow 170 = .ok (.goto (-138), 3) := k_167 zcX6_layRow rfl rfl rfl
theorem dX6_layRow_173 : decode cX6_layRow 173 = .ok (.return_, 1) := k_177 zcX6_layRow rfl rfl
theorem dX6_parted_0 : decode cX6_parted 0 = .ok (.aload_n 0, 1) := k_42 zcX6_parted rfl rfl
theorem dX6_parted_1 : decode cX6_parted 1 = .ok (.iload_n 1, 1) := k_27 zcX6_parted rfl rfl
theorem dX6_parted_2 : decode cX6_parted 2 = .ok (.iload_n 3, 1) := k_29 zcX6_parted rfl rfl
theorem dX6_parted_3 : decode cX6_parted 3 = .ok (.invokevirtual 207, 3) := k_182 zcX6_parted rfl rfl rfl
theorem dX6_parted_6 : decode cX6_parted 6 = .ok (.ifCond .eq 22, 3) := k_153 zcX6_parted rfl rfl rfl
theorem dX6_parted_9 : decode cX6_parted 9 = .ok (.iload_n 2, 1) := k_28 zcX6_parted rfl rfl
theorem dX6_parted_10 : decode cX6_parted 10 = .ok (.iconst 1, 1) := k_4 zcX6_parted rfl rfl
theorem dX6_parted_11 : decode cX6_parted 11 = .ok (.iconst 4, 1) := k_7 zcX6_parted rfl rfl
theorem dX6_parted_12 : decode cX6_parted 12 = .ok (.invokestatic 76, 3) := k_184 zcX6_parted rfl rfl rfl
theorem dX6_parted_15 : decode cX6_parted 15 = .ok (.ifCond .eq 13, 3) := k_153 zcX6_parted rfl rfl rfl
theorem dX6_parted_18 : decode cX6_parted 18 = .ok (.iload 4, 2) := k_21 zcX6_parted rfl rfl rfl
theorem dX6_parted_20 : decode cX6_parted 20 = .ok (.iconst 0, 1) := k_3 zcX6_parted rfl rfl
theorem dX6_parted_21 : decode cX6_parted 21 = .ok (.iload_n 2, 1) := k_28 zcX6_parted rfl rfl
theorem dX6_parted_22 : decode cX6_parted 22 = .ok (.invokestatic 76, 3) := k_184 zcX6_parted rfl rfl rfl
theorem dX6_parted_25 : decode cX6_parted 25 = .ok (.ifCond .ne 6, 3) := k_154 zcX6_parted rfl rfl rfl
theorem dX6_parted_28 : decode cX6_parted 28 = .ok (.ldc 160, 2) := k_18 zcX6_parted rfl rfl rfl
theorem dX6_parted_30 : decode cX6_parted 30 = .ok (.ireturn, 1) := k_172 zcX6_parted rfl rfl
theorem dX6_parted_31 : decode cX6_parted 31 = .ok (.aload_n 0, 1) := k_42 zcX6_parted rfl rfl
theorem dX6_parted_32 : decode cX6_parted 32 = .ok (.iload_n 1, 1) := k_27 zcX6_parted rfl rfl
theorem dX6_parted_33 : decode cX6_parted 33 = .ok (.iload_n 3, 1) := k_29 zcX6_parted rfl rfl
theorem dX6_parted_34 : decode cX6_parted 34 = .ok (.invokevirtual 286, 3) := k_182 zcX6_parted rfl rfl rfl
theorem dX6_parted_37 : decode cX6_parted 37 = .ok (.iconst 1, 1) := k_4 zcX6_parted rfl rfl
theorem dX6_parted_38 : decode cX6_parted 38 = .ok (.istore 5, 2) := k_54 zcX6_parted rfl rfl rfl
theorem dX6_parted_40 : decode cX6_parted 40 = .ok (.iload 5, 2) := k_21 zcX6_parted rfl rfl rfl
theorem dX6_parted_42 : decode cX6_parted 42 = .ok (.iload_n 2, 1) := k_28 zcX6_parted rfl rfl
theorem dX6_parted_43 : decode cX6_parted 43 = .ok (.if_icmp .gt 56, 3) := k_163 zcX6_parted rfl rfl rfl
theorem dX6_parted_46 : decode cX6_parted 46 = .ok (.aload_n 0, 1) := k_42 zcX6_parted rfl rfl
theorem dX6_parted_47 : decode cX6_parted 47 = .ok (.getfield 70, 3) := k_180 zcX6_parted rfl rfl rfl
theorem dX6_parted_50 : decode cX6_parted 50 = .ok (.bipush 121, 2) := k_16 zcX6_parted rfl rfl rfl
theorem dX6_parted_52 : decode cX6_parted 52 = .ok (.iload 5, 2) := k_21 zcX6_parted rfl rfl rfl
theorem dX6_parted_54 : decode cX6_parted 54 = .ok (.imul, 1) := k_104 zcX6_parted rfl rfl
theorem dX6_parted_55 : decode cX6_parted 55 = .ok (.aload_n 0, 1) := k_42 zcX6_parted rfl rfl
theorem dX6_parted_56 : decode cX6_parted 56 = .ok (.iload_n 1, 1) := k_27 zcX6_parted rfl rfl
theorem dX6_parted_57 : decode cX6_parted 57 = .ok (.invokevirtual 116, 3) := k_182 zcX6_parted rfl rfl rfl
theorem dX6_parted_60 : decode cX6_parted 60 = .ok (.iadd, 1) := k_96 zcX6_parted rfl rfl
theorem dX6_parted_61 : decode cX6_parted 61 = .ok (.ldc 160, 2) := k_18 zcX6_parted rfl rfl rfl
theorem dX6_parted_63 : decode cX6_parted 63 = .ok (.iastore, 1) := k_79 zcX6_parted rfl rfl
theorem dX6_parted_64 : decode cX6_parted 64 = .ok (.aload_n 0, 1) := k_42 zcX6_parted rfl rfl
theorem dX6_parted_65 : decode cX6_parted 65 = .ok (.iload_n 1, 1) := k_27 zcX6_parted rfl rfl
theorem dX6_parted_66 : decode cX6_parted 66 = .ok (.invokevirtual 116, 3) := k_182 zcX6_parted rfl rfl rfl
theorem dX6_parted_69 : decode cX6_parted 69 = .ok (.iconst 1, 1) := k_4 zcX6_parted rfl rfl
theorem dX6_parted_70 : decode cX6_parted 70 = .ok (.isub, 1) := k_100 zcX6_parted rfl rfl
theorem dX6_parted_71 : decode cX6_parted 71 = .ok (.istore 6, 2) := k_54 zcX6_parted rfl rfl rfl
theorem dX6_parted_73 : decode cX6_parted 73 = .ok (.iload 6, 2) := k_21 zcX6_parted rfl rfl rfl
theorem dX6_parted_75 : decode cX6_parted 75 = .ok (.ifCond .lt 18, 3) := k_155 zcX6_parted rfl rfl rfl
theorem dX6_parted_78 : decode cX6_parted 78 = .ok (.aload_n 0, 1) := k_42 zcX6_parted rfl rfl
theorem dX6_parted_79 : decode cX6_parted 79 = .ok (.iload_n 1, 1) := k_27 zcX6_parted rfl rfl
theorem dX6_parted_80 : decode cX6_parted 80 = .ok (.iload 5, 2) := k_21 zcX6_parted rfl rfl rfl
theorem dX6_parted_82 : decode cX6_parted 82 = .ok (.iload 6, 2) := k_21 zcX6_parted rfl rfl rfl
theorem dX6_parted_84 : decode cX6_parted 84 = .ok (.invokevirtual 289, 3) := k_182 zcX6_parted rfl rfl rfl
theorem dX6_parted_87 : decode cX6_parted 87 = .ok (.iinc 6 (-1), 3) := k_132 zcX6_parted rfl rfl rfl rfl
theorem dX6_parted_90 : decode cX6_parted 90 = .ok (.goto (-17), 3) := k_167 zcX6_parted rfl rfl rfl
theorem dX6_parted_93 : decode cX6_parted 93 = .ok (.iinc 5 1, 3) := k_132 zcX6_parted rfl rfl rfl rfl
theorem dX6_parted_96 : decode cX6_parted 96 = .ok (.goto (-56), 3) := k_167 zcX6_parted rfl rfl rfl
theorem dX6_parted_99 : decode cX6_parted 99 = .ok (.aload_n 0, 1) := k_42 zcX6_parted rfl rfl
theorem dX6_parted_100 : decode cX6_parted 100 = .ok (.getfield 70, 3) := k_180 zcX6_parted rfl rfl rfl
theorem dX6_parted_103 : decode cX6_parted 103 = .ok (.bipush 121, 2) := k_16 zcX6_parted rfl rfl rfl
theorem dX6_parted_105 : decode cX6_parted 105 = .ok (.iload_n 2, 1) := k_28 zcX6_parted rfl rfl
theorem dX6_parted_106 : decode cX6_parted 106 = .ok (.imul, 1) := k_104 zcX6_parted rfl rfl
theorem dX6_parted_107 : decode cX6_parted 107 = .ok (.iaload, 1) := k_46 zcX6_parted rfl rfl
theorem dX6_parted_108 : decode cX6_parted 108 = .ok (.ldc 160, 2) := k_18 zcX6_parted rfl rfl rfl
theorem dX6_parted_110 : decode cX6_parted 110 = .ok (.if_icmp .ne 6, 3) := k_160 zcX6_parted rfl rfl rfl
theorem dX6_parted_113 : decode cX6_parted 113 = .ok (.ldc 160, 2) := k_18 zcX6_parted rfl rfl rfl
theorem dX6_parted_115 : decode cX6_parted 115 = .ok (.ireturn, 1) := k_172 zcX6_parted rfl rfl
theorem dX6_parted_116 : decode cX6_parted 116 = .ok (.iload 4, 2) := k_21 zcX6_parted rfl rfl rfl
theorem dX6_parted_118 : decode cX6_parted 118 = .ok (.ifCond .ne 13, 3) := k_154 zcX6_parted rfl rfl rfl
theorem dX6_parted_121 : decode cX6_parted 121 = .ok (.aload_n 0, 1) := k_42 zcX6_parted rfl rfl
theorem dX6_parted_122 : decode cX6_parted 122 = .ok (.getfield 70, 3) := k_180 zcX6_parted rfl rfl rfl
theorem dX6_parted_125 : decode cX6_parted 125 = .ok (.bipush 121, 2) := k_16 zcX6_parted rfl rfl rfl
theorem dX6_parted_127 : decode cX6_parted 127 = .ok (.iload_n 2, 1) := k_28 zcX6_parted rfl rfl
theorem dX6_parted_128 : decode cX6_parted 128 = .ok (.imul, 1) := k_104 zcX6_parted rfl rfl
theorem dX6_parted_129 : decode cX6_parted 129 = .ok (.iaload, 1) := k_46 zcX6_parted rfl rfl
theorem dX6_parted_130 : decode cX6_parted 130 = .ok (.ireturn, 1) := k_172 zcX6_parted rfl rfl
theorem dX6_parted_131 : decode cX6_parted 131 = .ok (.iconst 0, 1) := k_3 zcX6_parted rfl rfl
theorem dX6_parted_132 : decode cX6_parted 132 = .ok (.istore 5, 2) := k_54 zcX6_parted rfl rfl rfl
theorem dX6_parted_134 : decode cX6_parted 134 = .ok (.iconst 1, 1) := k_4 zcX6_parted rfl rfl
theorem dX6_parted_135 : decode cX6_parted 135 = .ok (.istore 6, 2) := k_54 zcX6_parted rfl rfl rfl
theorem dX6_parted_137 : decode cX6_parted 137 = .ok (.iload 6, 2) := k_21 zcX6_parted rfl rfl rfl
theorem dX6_parted_139 : decode cX6_parted 139 = .ok (.iload 4, 2) := k_21 zcX6_parted rfl rfl rfl
theorem dX6_parted_141 : decode cX6_parted 141 = .ok (.if_icmp .ge 28, 3) := k_162 zcX6_parted rfl rfl rfl
theorem dX6_parted_144 : decode cX6_parted 144 = .ok (.aload_n 0, 1) := k_42 zcX6_parted rfl rfl
theorem dX6_parted_145 : decode cX6_parted 145 = .ok (.getfield 73, 3) := k_180 zcX6_parted rfl rfl rfl
theorem dX6_parted_148 : decode cX6_parted 148 = .ok (.bipush 121, 2) := k_16 zcX6_parted rfl rfl rfl
theorem dX6_parted_150 : decode cX6_parted 150 = .ok (.iload_n 2, 1) := k_28 zcX6_parted rfl rfl
theorem dX6_parted_151 : decode cX6_parted 151 = .ok (.iload 6, 2) := k_21 zcX6_parted rfl rfl rfl
theorem dX6_parted_153 : decode cX6_parted 153 = .ok (.isub, 1) := k_100 zcX6_parted rfl rfl
theorem dX6_parted_154 : decode cX6_parted 154 = .ok (.iconst 1, 1) := k_4 zcX6_parted rfl rfl
theorem dX6_parted_155 : decode cX6_parted 155 = .ok (.iadd, 1) := k_96 zcX6_parted rfl rfl
theorem dX6_parted_156 : decode cX6_parted 156 = .ok (.imul, 1) := k_104 zcX6_parted rfl rfl
theorem dX6_parted_157 : decode cX6_parted 157 = .ok (.iload 5, 2) := k_21 zcX6_parted rfl rfl rfl
theorem dX6_parted_159 : decode cX6_parted 159 = .ok (.iadd, 1) := k_96 zcX6_parted rfl rfl
theorem dX6_parted_160 : decode cX6_parted 160 = .ok (.iaload, 1) := k_46 zcX6_parted rfl rfl
theorem dX6_parted_161 : decode cX6_parted 161 = .ok (.istore 5, 2) := k_54 zcX6_parted rfl rfl rfl
theorem dX6_parted_163 : decode cX6_parted 163 = .ok (.iinc 6 1, 3) := k_132 zcX6_parted rfl rfl rfl rfl
theorem dX6_parted_166 : decode cX6_parted 166 = .ok (.goto (-29), 3) := k_167 zcX6_parted rfl rfl rfl
theorem dX6_parted_169 : decode cX6_parted 169 = .ok (.iload 5, 2) := k_21 zcX6_parted rfl rfl rfl
theorem dX6_parted_171 : decode cX6_parted 171 = .ok (.ireturn, 1) := k_172 zcX6_parted rfl rfl
theorem dX6_were_0 : decode cX6_were 0 = .ok (.aload_n 0, 1) := k_42 zcX6_were rfl rfl
theorem dX6_were_1 : decode cX6_were 1 = .ok (.iload_n 1, 1) := k_27 zcX6_were rfl rfl
theorem dX6_were_2 : decode cX6_were 2 = .ok (.iload 4, 2) := k_21 zcX6_were rfl rfl rfl
theorem dX6_were_4 : decode cX6_were 4 = .ok (.invokevirtual 207, 3) := k_182 zcX6_were rfl rfl rfl
theorem dX6_were_7 : decode cX6_were 7 = .ok (.ifCond .eq 43, 3) := k_153 zcX6_were rfl rfl rfl
theorem dX6_were_10 : decode cX6_were 10 = .ok (.iload_n 2, 1) := k_28 zcX6_were rfl rfl
theorem dX6_were_11 : decode cX6_were 11 = .ok (.iconst 0, 1) := k_3 zcX6_were rfl rfl
theorem dX6_were_12 : decode cX6_were 12 = .ok (.ldc 239, 2) := k_18 zcX6_were rfl rfl rfl
theorem dX6_were_14 : decode cX6_were 14 = .ok (.invokestatic 76, 3) := k_184 zcX6_were rfl rfl rfl
theorem dX6_were_17 : decode cX6_were 17 = .ok (.ifCond .eq 33, 3) := k_153 zcX6_were rfl rfl rfl
theorem dX6_were_20 : decode cX6_were 20 = .ok (.iload_n 3, 1) := k_29 zcX6_were rfl rfl
theorem dX6_were_21 : decode cX6_were 21 = .ok (.sipush (-1000), 3) := k_17 zcX6_were rfl rfl rfl
theorem dX6_were_24 : decode cX6_were 24 = .ok (.sipush 1000, 3) := k_17 zcX6_were rfl rfl rfl
theorem dX6_were_27 : decode cX6_were 27 = .ok (.invokestatic 76, 3) := k_184 zcX6_were rfl rfl rfl
theorem dX6_were_30 : decode cX6_were 30 = .ok (.ifCond .eq 20, 3) := k_153 zcX6_were rfl rfl rfl
theorem dX6_were_33 : decode cX6_were 33 = .ok (.aload_n 0, 1) := k_42 zcX6_were rfl rfl
theorem dX6_were_34 : decode cX6_were 34 = .ok (.iload_n 1, 1) := k_27 zcX6_were rfl rfl
theorem dX6_were_35 : decode cX6_were 35 = .ok (.iload_n 2, 1) := k_28 zcX6_were rfl rfl
theorem dX6_were_36 : decode cX6_were 36 = .ok (.invokevirtual 247, 3) := k_182 zcX6_were rfl rfl rfl
theorem dX6_were_39 : decode cX6_were 39 = .ok (.ifCond .ne 11, 3) := k_154 zcX6_were rfl rfl rfl
theorem dX6_were_42 : decode cX6_were 42 = .ok (.aload_n 0, 1) := k_42 zcX6_were rfl rfl
theorem dX6_were_43 : decode cX6_were 43 = .ok (.iload_n 1, 1) := k_27 zcX6_were rfl rfl
theorem dX6_were_44 : decode cX6_were 44 = .ok (.invokevirtual 250, 3) := k_182 zcX6_were rfl rfl rfl
theorem dX6_were_47 : decode cX6_were 47 = .ok (.ifCond .eq 6, 3) := k_153 zcX6_were rfl rfl rfl
theorem dX6_were_50 : decode cX6_were 50 = .ok (.ldc 160, 2) := k_18 zcX6_were rfl rfl rfl
theorem dX6_were_52 : decode cX6_were 52 = .ok (.ireturn, 1) := k_172 zcX6_were rfl rfl
theorem dX6_were_53 : decode cX6_were 53 = .ok (.aload_n 0, 1) := k_42 zcX6_were rfl rfl
theorem dX6_were_54 : decode cX6_were 54 = .ok (.iload_n 1, 1) := k_27 zcX6_were rfl rfl
theorem dX6_were_55 : decode cX6_were 55 = .ok (.bipush 7, 2) := k_16 zcX6_were rfl rfl rfl
theorem dX6_were_57 : decode cX6_were 57 = .ok (.invokevirtual 292, 3) := k_182 zcX6_were rfl rfl rfl
theorem dX6_were_60 : decode cX6_were 60 = .ok (.aload_n 0, 1) := k_42 zcX6_were rfl rfl
theorem dX6_were_61 : decode cX6_were 61 = .ok (.bipush 7, 2) := k_16 zcX6_were rfl rfl rfl
theorem dX6_were_63 : decode cX6_were 63 = .ok (.iload_n 2, 1) := k_28 zcX6_were rfl rfl
theorem dX6_were_64 : decode cX6_were 64 = .ok (.iload_n 3, 1) := k_29 zcX6_were rfl rfl
theorem dX6_were_65 : decode cX6_were 65 = .ok (.invokevirtual 253, 3) := k_182 zcX6_were rfl rfl rfl
theorem dX6_were_68 : decode cX6_were 68 = .ok (.aload_n 0, 1) := k_42 zcX6_were rfl rfl
theorem dX6_were_69 : decode cX6_were 69 = .ok (.bipush 7, 2) := k_16 zcX6_were rfl rfl rfl
theorem dX6_were_71 : decode cX6_were 71 = .ok (.iconst 0, 1) := k_3 zcX6_were rfl rfl
theorem dX6_were_72 : decode cX6_were 72 = .ok (.aload_n 0, 1) := k_42 zcX6_were rfl rfl
theorem dX6_were_73 : decode cX6_were 73 = .ok (.bipush 7, 2) := k_16 zcX6_were rfl rfl rfl
theorem dX6_were_75 : decode cX6_were 75 = .ok (.invokevirtual 116, 3) := k_182 zcX6_were rfl rfl rfl
theorem dX6_were_78 : decode cX6_were 78 = .ok (.iconst 1, 1) := k_4 zcX6_were rfl rfl
theorem dX6_were_79 : decode cX6_were 79 = .ok (.isub, 1) := k_100 zcX6_were rfl rfl
theorem dX6_were_80 : decode cX6_were 80 = .ok (.iload 4, 2) := k_21 zcX6_were rfl rfl rfl
theorem dX6_were_82 : decode cX6_were 82 = .ok (.invokevirtual 243, 3) := k_182 zcX6_were rfl rfl rfl
theorem dX6_were_85 : decode cX6_were 85 = .ok (.istore 5, 2) := k_54 zcX6_were rfl rfl rfl
theorem dX6_were_87 : decode cX6_were 87 = .ok (.aload_n 0, 1) := k_42 zcX6_were rfl rfl
theorem dX6_were_88 : decode cX6_were 88 = .ok (.bipush 7, 2) := k_16 zcX6_were rfl rfl rfl
theorem dX6_were_90 : decode cX6_were 90 = .ok (.iconst 0, 1) := k_3 zcX6_were rfl rfl
theorem dX6_were_91 : decode cX6_were 91 = .ok (.iconst 0, 1) := k_3 zcX6_were rfl rfl
theorem dX6_were_92 : decode cX6_were 92 = .ok (.invokevirtual 173, 3) := k_182 zcX6_were rfl rfl rfl
theorem dX6_were_95 : decode cX6_were 95 = .ok (.iload 5, 2) := k_21 zcX6_were rfl rfl rfl
theorem dX6_were_97 : decode cX6_were 97 = .ok (.ireturn, 1) := k_172 zcX6_were rfl rfl
theorem dX6_cost_0 : decode cX6_cost 0 = .ok (.aload_n 0, 1) := k_42 zcX6_cost rfl rfl
theorem dX6_cost_1 : decode cX6_cost 1 = .ok (.iload_n 1, 1) := k_27 zcX6_cost rfl rfl
theorem dX6_cost_2 : decode cX6_cost 2 = .ok (.invokevirtual 124, 3) := k_182 zcX6_cost rfl rfl rfl
theorem dX6_cost_5 : decode cX6_cost 5 = .ok (.ifCond .eq 23, 3) := k_153 zcX6_cost rfl rfl rfl
theorem dX6_cost_8 : decode cX6_cost 8 = .ok (.iload_n 2, 1) := k_28 zcX6_cost rfl rfl
theorem dX6_cost_9 : decode cX6_cost 9 = .ok (.iconst 0, 1) := k_3 zcX6_cost rfl rfl
theorem dX6_cost_10 : decode cX6_cost 10 = .ok (.sipush 200, 3) := k_17 zcX6_cost rfl rfl rfl
theorem dX6_cost_13 : decode cX6_cost 13 = .ok (.invokestatic 76, 3) := k_184 zcX6_cost rfl rfl rfl
theorem dX6_cost_16 : decode cX6_cost 16 = .ok (.ifCond .eq 12, 3) := k_153 zcX6_cost rfl rfl rfl
theorem dX6_cost_19 : decode cX6_cost 19 = .ok (.iload_n 3, 1) := k_29 zcX6_cost rfl rfl
theorem dX6_cost_20 : decode cX6_cost 20 = .ok (.iconst 0, 1) := k_3 zcX6_cost rfl rfl
theorem dX6_cost_21 : decode cX6_cost 21 = .ok (.iconst 1, 1) := k_4 zcX6_cost rfl rfl
theorem dX6_cost_22 : decode cX6_cost 22 = .ok (.invokestatic 76, 3) := k_184 zcX6_cost rfl rfl rfl
theorem dX6_cost_25 : decode cX6_cost 25 = .ok (.ifCond .ne 5, 3) := k_154 zcX6_cost rfl rfl rfl
theorem dX6_cost_28 : decode cX6_cost 28 = .ok (.iconst (-1), 1) := k_2 zcX6_cost rfl rfl
theorem dX6_cost_29 : decode cX6_cost 29 = .ok (.ireturn, 1) := k_172 zcX6_cost rfl rfl
theorem dX6_cost_30 : decode cX6_cost 30 = .ok (.aload_n 0, 1) := k_42 zcX6_cost rfl rfl
theorem dX6_cost_31 : decode cX6_cost 31 = .ok (.iload_n 1, 1) := k_27 zcX6_cost rfl rfl
theorem dX6_cost_32 : decode cX6_cost 32 = .ok (.bipush 7, 2) := k_16 zcX6_cost rfl rfl rfl
theorem dX6_cost_34 : decode cX6_cost 34 = .ok (.invokevirtual 292, 3) := k_182 zcX6_cost rfl rfl rfl
theorem dX6_cost_37 : decode cX6_cost 37 = .ok (.iconst 0, 1) := k_3 zcX6_cost rfl rfl
theorem dX6_cost_38 : decode cX6_cost 38 = .ok (.istore 4, 2) := k_54 zcX6_cost rfl rfl rfl
theorem dX6_cost_40 : decode cX6_cost 40 = .ok (.iconst 0, 1) := k_3 zcX6_cost rfl rfl
theorem dX6_cost_41 : decode cX6_cost 41 = .ok (.istore 5, 2) := k_54 zcX6_cost rfl rfl rfl
theorem dX6_cost_43 : decode cX6_cost 43 = .ok (.iconst 0, 1) := k_3 zcX6_cost rfl rfl
theorem dX6_cost_44 : decode cX6_cost 44 = .ok (.istore 6, 2) := k_54 zcX6_cost rfl rfl rfl
theorem dX6_cost_46 : decode cX6_cost 46 = .ok (.iload 6, 2) := k_21 zcX6_cost rfl rfl rfl
theorem dX6_cost_48 : decode cX6_cost 48 = .ok (.iload_n 2, 1) := k_28 zcX6_cost rfl rfl
theorem dX6_cost_49 : decode cX6_cost 49 = .ok (.if_icmp .ge 80, 3) := k_162 zcX6_cost rfl rfl rfl
theorem dX6_cost_52 : decode cX6_cost 52 = .ok (.aload_n 0, 1) := k_42 zcX6_cost rfl rfl
theorem dX6_cost_53 : decode cX6_cost 53 = .ok (.bipush 7, 2) := k_16 zcX6_cost rfl rfl rfl
theorem dX6_cost_55 : decode cX6_cost 55 = .ok (.bipush 14, 2) := k_16 zcX6_cost rfl rfl rfl
theorem dX6_cost_57 : decode cX6_cost 57 = .ok (.invokevirtual 80, 3) := k_182 zcX6_cost rfl rfl rfl
theorem dX6_cost_60 : decode cX6_cost 60 = .ok (.ifCond .le 7, 3) := k_158 zcX6_cost rfl rfl rfl
theorem dX6_cost_63 : decode cX6_cost 63 = .ok (.iconst 1, 1) := k_4 zcX6_cost rfl rfl
theorem dX6_cost_64 : decode cX6_cost 64 = .ok (.goto 4, 3) := k_167 zcX6_cost rfl rfl rfl
theorem dX6_cost_67 : decode cX6_cost 67 = .ok (.iconst 0, 1) := k_3 zcX6_cost rfl rfl
theorem dX6_cost_68 : decode cX6_cost 68 = .ok (.istore 7, 2) := k_54 zcX6_cost rfl rfl rfl
theorem dX6_cost_70 : decode cX6_cost 70 = .ok (.aload_n 0, 1) := k_42 zcX6_cost rfl rfl
theorem dX6_cost_71 : decode cX6_cost 71 = .ok (.bipush 7, 2) := k_16 zcX6_cost rfl rfl rfl
theorem dX6_cost_73 : decode cX6_cost 73 = .ok (.bipush 14, 2) := k_16 zcX6_cost rfl rfl rfl
theorem dX6_cost_75 : decode cX6_cost 75 = .ok (.iconst 1, 1) := k_4 zcX6_cost rfl rfl
theorem dX6_cost_76 : decode cX6_cost 76 = .ok (.invokevirtual 188, 3) := k_182 zcX6_cost rfl rfl rfl
theorem dX6_cost_79 : decode cX6_cost 79 = .ok (.aload_n 0, 1) := k_42 zcX6_cost rfl rfl
theorem dX6_cost_80 : decode cX6_cost 80 = .ok (.bipush 7, 2) := k_16 zcX6_cost rfl rfl rfl
theorem dX6_cost_82 : decode cX6_cost 82 = .ok (.iload 7, 2) := k_21 zcX6_cost rfl rfl rfl
theorem dX6_cost_84 : decode cX6_cost 84 = .ok (.invokevirtual 221, 3) := k_182 zcX6_cost rfl rfl rfl
theorem dX6_cost_87 : decode cX6_cost 87 = .ok (.iload 4, 2) := k_21 zcX6_cost rfl rfl rfl
theorem dX6_cost_89 : decode cX6_cost 89 = .ok (.aload_n 0, 1) := k_42 zcX6_cost rfl rfl
theorem dX6_cost_90 : decode cX6_cost 90 = .ok (.bipush 7, 2) := k_16 zcX6_cost rfl rfl rfl
theorem dX6_cost_92 : decode cX6_cost 92 = .ok (.bipush 18, 2) := k_16 zcX6_cost rfl rfl rfl
theorem dX6_cost_94 : decode cX6_cost 94 = .ok (.invokevirtual 80, 3) := k_182 zcX6_cost rfl rfl rfl
theorem dX6_cost_97 : decode cX6_cost 97 = .ok (.iadd, 1) := k_96 zcX6_cost rfl rfl
theorem dX6_cost_98 : decode cX6_cost 98 = .ok (.istore 4, 2) := k_54 zcX6_cost rfl rfl rfl
theorem dX6_cost_100 : decode cX6_cost 100 = .ok (.aload_n 0, 1) := k_42 zcX6_cost rfl rfl
theorem dX6_cost_101 : decode cX6_cost 101 = .ok (.bipush 7, 2) := k_16 zcX6_cost rfl rfl rfl
theorem dX6_cost_103 : decode cX6_cost 103 = .ok (.bipush 18, 2) := k_16 zcX6_cost rfl rfl rfl
theorem dX6_cost_105 : decode cX6_cost 105 = .ok (.invokevirtual 80, 3) := k_182 zcX6_cost rfl rfl rfl
theorem dX6_cost_108 : decode cX6_cost 108 = .ok (.iload 5, 2) := k_21 zcX6_cost rfl rfl rfl
theorem dX6_cost_110 : decode cX6_cost 110 = .ok (.if_icmp .le 13, 3) := k_164 zcX6_cost rfl rfl rfl
theorem dX6_cost_113 : decode cX6_cost 113 = .ok (.aload_n 0, 1) := k_42 zcX6_cost rfl rfl
theorem dX6_cost_114 : decode cX6_cost 114 = .ok (.bipush 7, 2) := k_16 zcX6_cost rfl rfl rfl
theorem dX6_cost_116 : decode cX6_cost 116 = .ok (.bipush 18, 2) := k_16 zcX6_cost rfl rfl rfl
theorem dX6_cost_118 : decode cX6_cost 118 = .ok (.invokevirtual 80, 3) := k_182 zcX6_cost rfl rfl rfl
theorem dX6_cost_121 : decode cX6_cost 121 = .ok (.istore 5, 2) := k_54 zcX6_cost rfl rfl rfl
theorem dX6_cost_123 : decode cX6_cost 123 = .ok (.iinc 6 1, 3) := k_132 zcX6_cost rfl rfl rfl rfl
theorem dX6_cost_126 : decode cX6_cost 126 = .ok (.goto (-80), 3) := k_167 zcX6_cost rfl rfl rfl
theorem dX6_cost_129 : decode cX6_cost 129 = .ok (.aload_n 0, 1) := k_42 zcX6_cost rfl rfl
theorem dX6_cost_130 : decode cX6_cost 130 = .ok (.bipush 7, 2) := k_16 zcX6_cost rfl rfl rfl
theorem dX6_cost_132 : decode cX6_cost 132 = .ok (.iconst 0, 1) := k_3 zcX6_cost rfl rfl
theorem dX6_cost_133 : decode cX6_cost 133 = .ok (.iconst 0, 1) := k_3 zcX6_cost rfl rfl
theorem dX6_cost_134 : decode cX6_cost 134 = .ok (.invokevirtual 173, 3) := k_182 zcX6_cost rfl rfl rfl
theorem dX6_cost_137 : decode cX6_cost 137 = .ok (.iload_n 3, 1) := k_29 zcX6_cost rfl rfl
theorem dX6_cost_138 : decode cX6_cost 138 = .ok (.ifCond .ne 8, 3) := k_154 zcX6_cost rfl rfl rfl
theorem dX6_cost_141 : decode cX6_cost 141 = .ok (.iload 4, 2) := k_21 zcX6_cost rfl rfl rfl
theorem dX6_cost_143 : decode cX6_cost 143 = .ok (.goto 5, 3) := k_167 zcX6_cost rfl rfl rfl
theorem dX6_cost_146 : decode cX6_cost 146 = .ok (.iload 5, 2) := k_21 zcX6_cost rfl rfl rfl
theorem dX6_cost_148 : decode cX6_cost 148 = .ok (.ireturn, 1) := k_172 zcX6_cost rfl rfl
theorem dX6_isWidth_0 : decode cX6_isWidth 0 = .ok (.iload_n 1, 1) := k_27 zcX6_isWidth rfl rfl
theorem dX6_isWidth_1 : decode cX6_isWidth 1 = .ok (.iconst 1, 1) := k_4 zcX6_isWidth rfl rfl
theorem dX6_isWidth_2 : decode cX6_isWidth 2 = .ok (.ldc 239, 2) := k_18 zcX6_isWidth rfl rfl rfl
theorem dX6_isWidth_4 : decode cX6_isWidth 4 = .ok (.invokestatic 76, 3) := k_184 zcX6_isWidth rfl rfl rfl
theorem dX6_isWidth_7 : decode cX6_isWidth 7 = .ok (.ireturn, 1) := k_172 zcX6_isWidth rfl rfl
theorem dX6_inPane_0 : decode cX6_inPane 0 = .ok (.iconst 1, 1) := k_4 zcX6_inPane rfl rfl
theorem dX6_inPane_1 : decode cX6_inPane 1 = .ok (.istore 4, 2) := k_54 zcX6_inPane rfl rfl rfl
theorem dX6_inPane_3 : decode cX6_inPane 3 = .ok (.iload_n 2, 1) := k_28 zcX6_inPane rfl rfl
theorem dX6_inPane_4 : decode cX6_inPane 4 = .ok (.iload 4, 2) := k_21 zcX6_inPane rfl rfl rfl
theorem dX6_inPane_6 : decode cX6_inPane 6 = .ok (.iadd, 1) := k_96 zcX6_inPane rfl rfl
theorem dX6_inPane_7 : decode cX6_inPane 7 = .ok (.aload_n 0, 1) := k_42 zcX6_inPane rfl rfl
theorem dX6_inPane_8 : decode cX6_inPane 8 = .ok (.iload_n 1, 1) := k_27 zcX6_inPane rfl rfl
theorem dX6_inPane_9 : decode cX6_inPane 9 = .ok (.invokevirtual 116, 3) := k_182 zcX6_inPane rfl rfl rfl
theorem dX6_inPane_12 : decode cX6_inPane 12 = .ok (.if_icmp .ge 41, 3) := k_162 zcX6_inPane rfl rfl rfl
theorem dX6_inPane_15 : decode cX6_inPane 15 = .ok (.aload_n 0, 1) := k_42 zcX6_inPane rfl rfl
theorem dX6_inPane_16 : decode cX6_inPane 16 = .ok (.getfield 13, 3) := k_180 zcX6_inPane rfl rfl rfl
theorem dX6_inPane_19 : decode cX6_inPane 19 = .ok (.bipush 121, 2) := k_16 zcX6_inPane rfl rfl rfl
theorem dX6_inPane_21 : decode cX6_inPane 21 = .ok (.iload_n 1, 1) := k_27 zcX6_inPane rfl rfl
theorem dX6_inPane_22 : decode cX6_inPane 22 = .ok (.imul, 1) := k_104 zcX6_inPane rfl rfl
theorem dX6_inPane_23 : decode cX6_inPane 23 = .ok (.iload_n 2, 1) := k_28 zcX6_inPane rfl rfl
theorem dX6_inPane_24 : decode cX6_inPane 24 = .ok (.iadd, 1) := k_96 zcX6_inPane rfl rfl
theorem dX6_inPane_25 : decode cX6_inPane 25 = .ok (.iload 4, 2) := k_21 zcX6_inPane rfl rfl rfl
theorem dX6_inPane_27 : decode cX6_inPane 27 = .ok (.iadd, 1) := k_96 zcX6_inPane rfl rfl
theorem dX6_inPane_28 : decode cX6_inPane 28 = .ok (.iaload, 1) := k_46 zcX6_inPane rfl rfl
theorem dX6_inPane_29 : decode cX6_inPane 29 = .ok (.iload_n 3, 1) := k_29 zcX6_inPane rfl rfl
theorem dX6_inPane_30 : decode cX6_inPane 30 = .ok (.idiv, 1) := k_108 zcX6_inPane rfl rfl
theorem dX6_inPane_31 : decode cX6_inPane 31 = .ok (.aload_n 0, 1) := k_42 zcX6_inPane rfl rfl
theorem dX6_inPane_32 : decode cX6_inPane 32 = .ok (.getfield 13, 3) := k_180 zcX6_inPane rfl rfl rfl
theorem dX6_inPane_35 : decode cX6_inPane 35 = .ok (.bipush 121, 2) := k_16 zcX6_inPane rfl rfl rfl
theorem dX6_inPane_37 : decode cX6_inPane 37 = .ok (.iload_n 1, 1) := k_27 zcX6_inPane rfl rfl
theorem dX6_inPane_38 : decode cX6_inPane 38 = .ok (.imul, 1) := k_104 zcX6_inPane rfl rfl
theorem dX6_inPane_39 : decode cX6_inPane 39 = .ok (.iload_n 2, 1) := k_28 zcX6_inPane rfl rfl
theorem dX6_inPane_40 : decode cX6_inPane 40 = .ok (.iadd, 1) := k_96 zcX6_inPane rfl rfl
theorem dX6_inPane_41 : decode cX6_inPane 41 = .ok (.iaload, 1) := k_46 zcX6_inPane rfl rfl
theorem dX6_inPane_42 : decode cX6_inPane 42 = .ok (.iload_n 3, 1) := k_29 zcX6_inPane rfl rfl
theorem dX6_inPane_43 : decode cX6_inPane 43 = .ok (.idiv, 1) := k_108 zcX6_inPane rfl rfl
theorem dX6_inPane_44 : decode cX6_inPane 44 = .ok (.if_icmp .ne 9, 3) := k_160 zcX6_inPane rfl rfl rfl
theorem dX6_inPane_47 : decode cX6_inPane 47 = .ok (.iinc 4 1, 3) := k_132 zcX6_inPane rfl rfl rfl rfl
theorem dX6_inPane_50 : decode cX6_inPane 50 = .ok (.goto (-47), 3) := k_167 zcX6_inPane rfl rfl rfl
theorem dX6_inPane_53 : decode cX6_inPane 53 = .ok (.iload 4, 2) := k_21 zcX6_inPane rfl rfl rfl
theorem dX6_inPane_55 : decode cX6_inPane 55 = .ok (.ireturn, 1) := k_172 zcX6_inPane rfl rfl
theorem dX6_panes_0 : decode cX6_panes 0 = .ok (.aload_n 0, 1) := k_42 zcX6_panes rfl rfl
theorem dX6_panes_1 : decode cX6_panes 1 = .ok (.iload_n 1, 1) := k_27 zcX6_panes rfl rfl
theorem dX6_panes_2 : decode cX6_panes 2 = .ok (.invokevirtual 124, 3) := k_182 zcX6_panes rfl rfl rfl
theorem dX6_panes_5 : decode cX6_panes 5 = .ok (.ifCond .eq 11, 3) := k_153 zcX6_panes rfl rfl rfl
theorem dX6_panes_8 : decode cX6_panes 8 = .ok (.aload_n 0, 1) := k_42 zcX6_panes rfl rfl
theorem dX6_panes_9 : decode cX6_panes 9 = .ok (.iload_n 2, 1) := k_28 zcX6_panes rfl rfl
theorem dX6_panes_10 : decode cX6_panes 10 = .ok (.invokevirtual 295, 3) := k_182 zcX6_panes rfl rfl rfl
theorem dX6_panes_13 : decode cX6_panes 13 = .ok (.ifCond .ne 5, 3) := k_154 zcX6_panes rfl rfl rfl
theorem dX6_panes_16 : decode cX6_panes 16 = .ok (.iconst (-1), 1) := k_2 zcX6_panes rfl rfl
theorem dX6_panes_17 : decode cX6_panes 17 = .ok (.ireturn, 1) := k_172 zcX6_panes rfl rfl
theorem dX6_panes_18 : decode cX6_panes 18 = .ok (.iconst 0, 1) := k_3 zcX6_panes rfl rfl
theorem dX6_panes_19 : decode cX6_panes 19 = .ok (.istore_n 3, 1) := k_62 zcX6_panes rfl rfl
theorem dX6_panes_20 : decode cX6_panes 20 = .ok (.iconst 0, 1) := k_3 zcX6_panes rfl rfl
theorem dX6_panes_21 : decode cX6_panes 21 = .ok (.istore 4, 2) := k_54 zcX6_panes rfl rfl rfl
theorem dX6_panes_23 : decode cX6_panes 23 = .ok (.iload 4, 2) := k_21 zcX6_panes rfl rfl rfl
theorem dX6_panes_25 : decode cX6_panes 25 = .ok (.aload_n 0, 1) := k_42 zcX6_panes rfl rfl
theorem dX6_panes_26 : decode cX6_panes 26 = .ok (.iload_n 1, 1) := k_27 zcX6_panes rfl rfl
theorem dX6_panes_27 : decode cX6_panes 27 = .ok (.invokevirtual 116, 3) := k_182 zcX6_panes rfl rfl rfl
theorem dX6_panes_30 : decode cX6_panes 30 = .ok (.if_icmp .ge 22, 3) := k_162 zcX6_panes rfl rfl rfl
theorem dX6_panes_33 : decode cX6_panes 33 = .ok (.iinc 3 1, 3) := k_132 zcX6_panes rfl rfl rfl rfl
theorem dX6_panes_36 : decode cX6_panes 36 = .ok (.iload 4, 2) := k_21 zcX6_panes rfl rfl rfl
theorem dX6_panes_38 : decode cX6_panes 38 = .ok (.aload_n 0, 1) := k_42 zcX6_panes rfl rfl
theorem dX6_panes_39 : decode cX6_panes 39 = .ok (.iload_n 1, 1) := k_27 zcX6_panes rfl rfl
theorem dX6_panes_40 : decode cX6_panes 40 = .ok (.iload 4, 2) := k_21 zcX6_panes rfl rfl rfl
theorem dX6_panes_42 : decode cX6_panes 42 = .ok (.iload_n 2, 1) := k_28 zcX6_panes rfl rfl
theorem dX6_panes_43 : decode cX6_panes 43 = .ok (.invokevirtual 298, 3) := k_182 zcX6_panes rfl rfl rfl
theorem dX6_panes_46 : decode cX6_panes 46 = .ok (.iadd, 1) := k_96 zcX6_panes rfl rfl
theorem dX6_panes_47 : decode cX6_panes 47 = .ok (.istore 4, 2) := k_54 zcX6_panes rfl rfl rfl
theorem dX6_panes_49 : decode cX6_panes 49 = .ok (.goto (-26), 3) := k_167 zcX6_panes rfl rfl rfl
theorem dX6_panes_52 : decode cX6_panes 52 = .ok (.iload_n 3, 1) := k_29 zcX6_panes rfl rfl
theorem dX6_panes_53 : decode cX6_panes 53 = .ok (.ireturn, 1) := k_172 zcX6_panes rfl rfl
theorem dX6_fullest_0 : decode cX6_fullest 0 = .ok (.aload_n 0, 1) := k_42 zcX6_fullest rfl rfl
theorem dX6_fullest_1 : decode cX6_fullest 1 = .ok (.iload_n 1, 1) := k_27 zcX6_fullest rfl rfl
theorem dX6_fullest_2 : decode cX6_fullest 2 = .ok (.invokevirtual 124, 3) := k_182 zcX6_fullest rfl rfl rfl
theorem dX6_fullest_5 : decode cX6_fullest 5 = .ok (.ifCond .eq 11, 3) := k_153 zcX6_fullest rfl rfl rfl
theorem dX6_fullest_8 : decode cX6_fullest 8 = .ok (.aload_n 0, 1) := k_42 zcX6_fullest rfl rfl
theorem dX6_fullest_9 : decode cX6_fullest 9 = .ok (.iload_n 2, 1) := k_28 zcX6_fullest rfl rfl
theorem dX6_fullest_10 : decode cX6_fullest 10 = .ok (.invokevirtual 295, 3) := k_182 zcX6_fullest rfl rfl rfl
theorem dX6_fullest_13 : decode cX6_fullest 13 = .ok (.ifCond .ne 5, 3) := k_154 zcX6_fullest rfl rfl rfl
theorem dX6_fullest_16 : decode cX6_fullest 16 = .ok (.iconst (-1), 1) := k_2 zcX6_fullest rfl rfl
theorem dX6_fullest_17 : decode cX6_fullest 17 = .ok (.ireturn, 1) := k_172 zcX6_fullest rfl rfl
theorem dX6_fullest_18 : decode cX6_fullest 18 = .ok (.iconst (-1), 1) := k_2 zcX6_fullest rfl rfl
theorem dX6_fullest_19 : decode cX6_fullest 19 = .ok (.istore_n 3, 1) := k_62 zcX6_fullest rfl rfl
theorem dX6_fullest_20 : decode cX6_fullest 20 = .ok (.iconst 0, 1) := k_3 zcX6_fullest rfl rfl
theorem dX6_fullest_21 : decode cX6_fullest 21 = .ok (.istore 4, 2) := k_54 zcX6_fullest rfl rfl rfl
theorem dX6_fullest_23 : decode cX6_fullest 23 = .ok (.iconst 0, 1) := k_3 zcX6_fullest rfl rfl
theorem dX6_fullest_24 : decode cX6_fullest 24 = .ok (.istore 5, 2) := k_54 zcX6_fullest rfl rfl rfl
theorem dX6_fullest_26 : decode cX6_fullest 26 = .ok (.iload 5, 2) := k_21 zcX6_fullest rfl rfl rfl
theorem dX6_fullest_28 : decode cX6_fullest 28 = .ok (.aload_n 0, 1) := k_42 zcX6_fullest rfl rfl
theorem dX6_fullest_29 : decode cX6_fullest 29 = .ok (.iload_n 1, 1) := k_27 zcX6_fullest rfl rfl
theorem dX6_fullest_30 : decode cX6_fullest 30 = .ok (.invokevirtual 116, 3) := k_182 zcX6_fullest rfl rfl rfl
theorem dX6_fullest_33 : decode cX6_fullest 33 = .ok (.if_icmp .ge 60, 3) := k_162 zcX6_fullest rfl rfl rfl
theorem dX6_fullest_36 : decode cX6_fullest 36 = .ok (.aload_n 0, 1) := k_42 zcX6_fullest rfl rfl
theorem dX6_fullest_37 : decode cX6_fullest 37 = .ok (.iload_n 1, 1) := k_27 zcX6_fullest rfl rfl
theorem dX6_fullest_38 : decode cX6_fullest 38 = .ok (.iload 5, 2) := k_21 zcX6_fullest rfl rfl rfl
theorem dX6_fullest_40 : decode cX6_fullest 40 = .ok (.iload_n 2, 1) := k_28 zcX6_fullest rfl rfl
theorem dX6_fullest_41 : decode cX6_fullest 41 = .ok (.invokevirtual 298, 3) := k_182 zcX6_fullest rfl rfl rfl
theorem dX6_fullest_44 : decode cX6_fullest 44 = .ok (.iload 4, 2) := k_21 zcX6_fullest rfl rfl rfl
theorem dX6_fullest_46 : decode cX6_fullest 46 = .ok (.if_icmp .gt 6, 3) := k_163 zcX6_fullest rfl rfl rfl
theorem dX6_fullest_49 : decode cX6_fullest 49 = .ok (.goto 28, 3) := k_167 zcX6_fullest rfl rfl rfl
theorem dX6_fullest_52 : decode cX6_fullest 52 = .ok (.aload_n 0, 1) := k_42 zcX6_fullest rfl rfl
theorem dX6_fullest_53 : decode cX6_fullest 53 = .ok (.iload_n 1, 1) := k_27 zcX6_fullest rfl rfl
theorem dX6_fullest_54 : decode cX6_fullest 54 = .ok (.iload 5, 2) := k_21 zcX6_fullest rfl rfl rfl
theorem dX6_fullest_56 : decode cX6_fullest 56 = .ok (.iload_n 2, 1) := k_28 zcX6_fullest rfl rfl
theorem dX6_fullest_57 : decode cX6_fullest 57 = .ok (.invokevirtual 298, 3) := k_182 zcX6_fullest rfl rfl rfl
theorem dX6_fullest_60 : decode cX6_fullest 60 = .ok (.istore 4, 2) := k_54 zcX6_fullest rfl rfl rfl
theorem dX6_fullest_62 : decode cX6_fullest 62 = .ok (.aload_n 0, 1) := k_42 zcX6_fullest rfl rfl
theorem dX6_fullest_63 : decode cX6_fullest 63 = .ok (.getfield 13, 3) := k_180 zcX6_fullest rfl rfl rfl
theorem dX6_fullest_66 : decode cX6_fullest 66 = .ok (.bipush 121, 2) := k_16 zcX6_fullest rfl rfl rfl
theorem dX6_fullest_68 : decode cX6_fullest 68 = .ok (.iload_n 1, 1) := k_27 zcX6_fullest rfl rfl
theorem dX6_fullest_69 : decode cX6_fullest 69 = .ok (.imul, 1) := k_104 zcX6_fullest rfl rfl
theorem dX6_fullest_70 : decode cX6_fullest 70 = .ok (.iload 5, 2) := k_21 zcX6_fullest rfl rfl rfl
theorem dX6_fullest_72 : decode cX6_fullest 72 = .ok (.iadd, 1) := k_96 zcX6_fullest rfl rfl
theorem dX6_fullest_73 : decode cX6_fullest 73 = .ok (.iaload, 1) := k_46 zcX6_fullest rfl rfl
theorem dX6_fullest_74 : decode cX6_fullest 74 = .ok (.iload_n 2, 1) := k_28 zcX6_fullest rfl rfl
theorem dX6_fullest_75 : decode cX6_fullest 75 = .ok (.idiv, 1) := k_108 zcX6_fullest rfl rfl
theorem dX6_fullest_76 : decode cX6_fullest 76 = .ok (.istore_n 3, 1) := k_62 zcX6_fullest rfl rfl
theorem dX6_fullest_77 : decode cX6_fullest 77 = .ok (.iload 5, 2) := k_21 zcX6_fullest rfl rfl rfl
theorem dX6_fullest_79 : decode cX6_fullest 79 = .ok (.aload_n 0, 1) := k_42 zcX6_fullest rfl rfl
theorem dX6_fullest_80 : decode cX6_fullest 80 = .ok (.iload_n 1, 1) := k_27 zcX6_fullest rfl rfl
theorem dX6_fullest_81 : decode cX6_fullest 81 = .ok (.iload 5, 2) := k_21 zcX6_fullest rfl rfl rfl
theorem dX6_fullest_83 : decode cX6_fullest 83 = .ok (.iload_n 2, 1) := k_28 zcX6_fullest rfl rfl
theorem dX6_fullest_84 : decode cX6_fullest 84 = .ok (.invokevirtual 298, 3) := k_182 zcX6_fullest rfl rfl rfl
theorem dX6_fullest_87 : decode cX6_fullest 87 = .ok (.iadd, 1) := k_96 zcX6_fullest rfl rfl
theorem dX6_fullest_88 : decode cX6_fullest 88 = .ok (.istore 5, 2) := k_54 zcX6_fullest rfl rfl rfl
theorem dX6_fullest_90 : decode cX6_fullest 90 = .ok (.goto (-64), 3) := k_167 zcX6_fullest rfl rfl rfl
theorem dX6_fullest_93 : decode cX6_fullest 93 = .ok (.iload_n 3, 1) := k_29 zcX6_fullest rfl rfl
theorem dX6_fullest_94 : decode cX6_fullest 94 = .ok (.ireturn, 1) := k_172 zcX6_fullest rfl rfl
theorem dX6_isGap_0 : decode cX6_isGap 0 = .ok (.iload_n 1, 1) := k_27 zcX6_isGap rfl rfl
theorem dX6_isGap_1 : decode cX6_isGap 1 = .ok (.iconst 0, 1) := k_3 zcX6_isGap rfl rfl
theorem dX6_isGap_2 : decode cX6_isGap 2 = .ok (.ldc 239, 2) := k_18 zcX6_isGap rfl rfl rfl
theorem dX6_isGap_4 : decode cX6_isGap 4 = .ok (.invokestatic 76, 3) := k_184 zcX6_isGap rfl rfl rfl
theorem dX6_isGap_7 : decode cX6_isGap 7 = .ok (.ireturn, 1) := k_172 zcX6_isGap rfl rfl
theorem dX6_inSession_0 : decode cX6_inSession 0 = .ok (.iconst 1, 1) := k_4 zcX6_inSession rfl rfl
theorem dX6_inSession_1 : decode cX6_inSession 1 = .ok (.istore 4, 2) := k_54 zcX6_inSession rfl rfl rfl
theorem dX6_inSession_3 : decode cX6_inSession 3 = .ok (.iload_n 2, 1) := k_28 zcX6_inSession rfl rfl
theorem dX6_inSession_4 : decode cX6_inSession 4 = .ok (.iload 4, 2) := k_21 zcX6_inSession rfl rfl rfl
theorem dX6_inSession_6 : decode cX6_inSession 6 = .ok (.iadd, 1) := k_96 zcX6_inSession rfl rfl
theorem dX6_inSession_7 : decode cX6_inSession 7 = .ok (.aload_n 0, 1) := k_42 zcX6_inSession rfl rfl
theorem dX6_inSession_8 : decode cX6_inSession 8 = .ok (.iload_n 1, 1) := k_27 zcX6_inSession rfl rfl
theorem dX6_inSession_9 : decode cX6_inSession 9 = .ok (.invokevirtual 116, 3) := k_182 zcX6_inSession rfl rfl rfl
theorem dX6_inSession_12 : decode cX6_inSession 12 = .ok (.if_icmp .ge 44, 3) := k_162 zcX6_inSession rfl rfl rfl
theorem dX6_inSession_15 : decode cX6_inSession 15 = .ok (.aload_n 0, 1) := k_42 zcX6_inSession rfl rfl
theorem dX6_inSession_16 : decode cX6_inSession 16 = .ok (.getfield 13, 3) := k_180 zcX6_inSession rfl rfl rfl
theorem dX6_inSession_19 : decode cX6_inSession 19 = .ok (.bipush 121, 2) := k_16 zcX6_inSession rfl rfl rfl
theorem dX6_inSession_21 : decode cX6_inSession 21 = .ok (.iload_n 1, 1) := k_27 zcX6_inSession rfl rfl
theorem dX6_inSession_22 : decode cX6_inSession 22 = .ok (.imul, 1) := k_104 zcX6_inSession rfl rfl
theorem dX6_inSession_23 : decode cX6_inSession 23 = .ok (.iload_n 2, 1) := k_28 zcX6_inSession rfl rfl
theorem dX6_inSession_24 : decode cX6_inSession 24 = .ok (.iadd, 1) := k_96 zcX6_inSession rfl rfl
theorem dX6_inSession_25 : decode cX6_inSession 25 = .ok (.iload 4, 2) := k_21 zcX6_inSession rfl rfl rfl
theorem dX6_inSession_27 : decode cX6_inSession 27 = .ok (.iadd, 1) := k_96 zcX6_inSession rfl rfl
theorem dX6_inSession_28 : decode cX6_inSession 28 = .ok (.iaload, 1) := k_46 zcX6_inSession rfl rfl
theorem dX6_inSession_29 : decode cX6_inSession 29 = .ok (.aload_n 0, 1) := k_42 zcX6_inSession rfl rfl
theorem dX6_inSession_30 : decode cX6_inSession 30 = .ok (.getfield 13, 3) := k_180 zcX6_inSession rfl rfl rfl
theorem dX6_inSession_33 : decode cX6_inSession 33 = .ok (.bipush 121, 2) := k_16 zcX6_inSession rfl rfl rfl
theorem dX6_inSession_35 : decode cX6_inSession 35 = .ok (.iload_n 1, 1) := k_27 zcX6_inSession rfl rfl
theorem dX6_inSession_36 : decode cX6_inSession 36 = .ok (.imul, 1) := k_104 zcX6_inSession rfl rfl
theorem dX6_inSession_37 : decode cX6_inSession 37 = .ok (.iload_n 2, 1) := k_28 zcX6_inSession rfl rfl
theorem dX6_inSession_38 : decode cX6_inSession 38 = .ok (.iadd, 1) := k_96 zcX6_inSession rfl rfl
theorem dX6_inSession_39 : decode cX6_inSession 39 = .ok (.iload 4, 2) := k_21 zcX6_inSession rfl rfl rfl
theorem dX6_inSession_41 : decode cX6_inSession 41 = .ok (.iadd, 1) := k_96 zcX6_inSession rfl rfl
theorem dX6_inSession_42 : decode cX6_inSession 42 = .ok (.iconst 1, 1) := k_4 zcX6_inSession rfl rfl
theorem dX6_inSession_43 : decode cX6_inSession 43 = .ok (.isub, 1) := k_100 zcX6_inSession rfl rfl
theorem dX6_inSession_44 : decode cX6_inSession 44 = .ok (.iaload, 1) := k_46 zcX6_inSession rfl rfl
theorem dX6_inSession_45 : decode cX6_inSession 45 = .ok (.isub, 1) := k_100 zcX6_inSession rfl rfl
theorem dX6_inSession_46 : decode cX6_inSession 46 = .ok (.iload_n 3, 1) := k_29 zcX6_inSession rfl rfl
theorem dX6_inSession_47 : decode cX6_inSession 47 = .ok (.if_icmp .gt 9, 3) := k_163 zcX6_inSession rfl rfl rfl
theorem dX6_inSession_50 : decode cX6_inSession 50 = .ok (.iinc 4 1, 3) := k_132 zcX6_inSession rfl rfl rfl rfl
theorem dX6_inSession_53 : decode cX6_inSession 53 = .ok (.goto (-50), 3) := k_167 zcX6_inSession rfl rfl rfl
theorem dX6_inSession_56 : decode cX6_inSession 56 = .ok (.iload 4, 2) := k_21 zcX6_inSession rfl rfl rfl
theorem dX6_inSession_58 : decode cX6_inSession 58 = .ok (.ireturn, 1) := k_172 zcX6_inSession rfl rfl
theorem dX6_sessions_0 : decode cX6_sessions 0 = .ok (.aload_n 0, 1) := k_42 zcX6_sessions rfl rfl
theorem dX6_sessions_1 : decode cX6_sessions 1 = .ok (.iload_n 1, 1) := k_27 zcX6_sessions rfl rfl
theorem dX6_sessions_2 : decode cX6_sessions 2 = .ok (.invokevirtual 124, 3) := k_182 zcX6_sessions rfl rfl rfl
theorem dX6_sessions_5 : decode cX6_sessions 5 = .ok (.ifCond .eq 11, 3) := k_153 zcX6_sessions rfl rfl rfl
theorem dX6_sessions_8 : decode cX6_sessions 8 = .ok (.aload_n 0, 1) := k_42 zcX6_sessions rfl rfl
theorem dX6_sessions_9 : decode cX6_sessions 9 = .ok (.iload_n 2, 1) := k_28 zcX6_sessions rfl rfl
theorem dX6_sessions_10 : decode cX6_sessions 10 = .ok (.invokevirtual 301, 3) := k_182 zcX6_sessions rfl rfl rfl
theorem dX6_sessions_13 : decode cX6_sessions 13 = .ok (.ifCond .ne 5, 3) := k_154 zcX6_sessions rfl rfl rfl
theorem dX6_sessions_16 : decode cX6_sessions 16 = .ok (.iconst (-1), 1) := k_2 zcX6_sessions rfl rfl
theorem dX6_sessions_17 : decode cX6_sessions 17 = .ok (.ireturn, 1) := k_172 zcX6_sessions rfl rfl
theorem dX6_sessions_18 : decode cX6_sessions 18 = .ok (.iconst 0, 1) := k_3 zcX6_sessions rfl rfl
theorem dX6_sessions_19 : decode cX6_sessions 19 = .ok (.istore_n 3, 1) := k_62 zcX6_sessions rfl rfl
theorem dX6_sessions_20 : decode cX6_sessions 20 = .ok (.iconst 0, 1) := k_3 zcX6_sessions rfl rfl
theorem dX6_sessions_21 : decode cX6_sessions 21 = .ok (.istore 4, 2) := k_54 zcX6_sessions rfl rfl rfl
theorem dX6_sessions_23 : decode cX6_sessions 23 = .ok (.iload 4, 2) := k_21 zcX6_sessions rfl rfl rfl
theorem dX6_sessions_25 : decode cX6_sessions 25 = .ok (.aload_n 0, 1) := k_42 zcX6_sessions rfl rfl
theorem dX6_sessions_26 : decode cX6_sessions 26 = .ok (.iload_n 1, 1) := k_27 zcX6_sessions rfl rfl
theorem dX6_sessions_27 : decode cX6_sessions 27 = .ok (.invokevirtual 116, 3) := k_182 zcX6_sessions rfl rfl rfl
theorem dX6_sessions_30 : decode cX6_sessions 30 = .ok (.if_icmp .ge 22, 3) := k_162 zcX6_sessions rfl rfl rfl
theorem dX6_sessions_33 : decode cX6_sessions 33 = .ok (.iinc 3 1, 3) := k_132 zcX6_sessions rfl rfl rfl rfl
theorem dX6_sessions_36 : decode cX6_sessions 36 = .ok (.iload 4, 2) := k_21 zcX6_sessions rfl rfl rfl
theorem dX6_sessions_38 : decode cX6_sessions 38 = .ok (.aload_n 0, 1) := k_42 zcX6_sessions rfl rfl
theorem dX6_sessions_39 : decode cX6_sessions 39 = .ok (.iload_n 1, 1) := k_27 zcX6_sessions rfl rfl
theorem dX6_sessions_40 : decode cX6_sessions 40 = .ok (.iload 4, 2) := k_21 zcX6_sessions rfl rfl rfl
theorem dX6_sessions_42 : decode cX6_sessions 42 = .ok (.iload_n 2, 1) := k_28 zcX6_sessions rfl rfl
theorem dX6_sessions_43 : decode cX6_sessions 43 = .ok (.invokevirtual 304, 3) := k_182 zcX6_sessions rfl rfl rfl
theorem dX6_sessions_46 : decode cX6_sessions 46 = .ok (.iadd, 1) := k_96 zcX6_sessions rfl rfl
theorem dX6_sessions_47 : decode cX6_sessions 47 = .ok (.istore 4, 2) := k_54 zcX6_sessions rfl rfl rfl
theorem dX6_sessions_49 : decode cX6_sessions 49 = .ok (.goto (-26), 3) := k_167 zcX6_sessions rfl rfl rfl
theorem dX6_sessions_52 : decode cX6_sessions 52 = .ok (.iload_n 3, 1) := k_29 zcX6_sessions rfl rfl
theorem dX6_sessions_53 : decode cX6_sessions 53 = .ok (.ireturn, 1) := k_172 zcX6_sessions rfl rfl
theorem dX6_session_0 : decode cX6_session 0 = .ok (.aload_n 0, 1) := k_42 zcX6_session rfl rfl
theorem dX6_session_1 : decode cX6_session 1 = .ok (.iload_n 1, 1) := k_27 zcX6_session rfl rfl
theorem dX6_session_2 : decode cX6_session 2 = .ok (.iload 4, 2) := k_21 zcX6_session rfl rfl rfl
theorem dX6_session_4 : decode cX6_session 4 = .ok (.invokevirtual 207, 3) := k_182 zcX6_session rfl rfl rfl
theorem dX6_session_7 : decode cX6_session 7 = .ok (.ifCond .eq 15, 3) := k_153 zcX6_session rfl rfl rfl
theorem dX6_session_10 : decode cX6_session 10 = .ok (.aload_n 0, 1) := k_42 zcX6_session rfl rfl
theorem dX6_session_11 : decode cX6_session 11 = .ok (.iload_n 2, 1) := k_28 zcX6_session rfl rfl
theorem dX6_session_12 : decode cX6_session 12 = .ok (.invokevirtual 301, 3) := k_182 zcX6_session rfl rfl rfl
theorem dX6_session_15 : decode cX6_session 15 = .ok (.ifCond .eq 7, 3) := k_153 zcX6_session rfl rfl rfl
theorem dX6_session_18 : decode cX6_session 18 = .ok (.iload_n 3, 1) := k_29 zcX6_session rfl rfl
theorem dX6_session_19 : decode cX6_session 19 = .ok (.ifCond .ge 6, 3) := k_156 zcX6_session rfl rfl rfl
theorem dX6_session_22 : decode cX6_session 22 = .ok (.ldc 160, 2) := k_18 zcX6_session rfl rfl rfl
theorem dX6_session_24 : decode cX6_session 24 = .ok (.ireturn, 1) := k_172 zcX6_session rfl rfl
theorem dX6_session_25 : decode cX6_session 25 = .ok (.iconst 0, 1) := k_3 zcX6_session rfl rfl
theorem dX6_session_26 : decode cX6_session 26 = .ok (.istore 5, 2) := k_54 zcX6_session rfl rfl rfl
theorem dX6_session_28 : decode cX6_session 28 = .ok (.iconst 0, 1) := k_3 zcX6_session rfl rfl
theorem dX6_session_29 : decode cX6_session 29 = .ok (.istore 6, 2) := k_54 zcX6_session rfl rfl rfl
theorem dX6_session_31 : decode cX6_session 31 = .ok (.iload 6, 2) := k_21 zcX6_session rfl rfl rfl
theorem dX6_session_33 : decode cX6_session 33 = .ok (.iload_n 3, 1) := k_29 zcX6_session rfl rfl
theorem dX6_session_34 : decode cX6_session 34 = .ok (.if_icmp .ge 32, 3) := k_162 zcX6_session rfl rfl rfl
theorem dX6_session_37 : decode cX6_session 37 = .ok (.iload 5, 2) := k_21 zcX6_session rfl rfl rfl
theorem dX6_session_39 : decode cX6_session 39 = .ok (.aload_n 0, 1) := k_42 zcX6_session rfl rfl
theorem dX6_session_40 : decode cX6_session 40 = .ok (.iload_n 1, 1) := k_27 zcX6_session rfl rfl
theorem dX6_session_41 : decode cX6_session 41 = .ok (.invokevirtual 116, 3) := k_182 zcX6_session rfl rfl rfl
theorem dX6_session_44 : decode cX6_session 44 = .ok (.if_icmp .ge 22, 3) := k_162 zcX6_session rfl rfl rfl
theorem dX6_session_47 : decode cX6_session 47 = .ok (.iload 5, 2) := k_21 zcX6_session rfl rfl rfl
theorem dX6_session_49 : decode cX6_session 49 = .ok (.aload_n 0, 1) := k_42 zcX6_session rfl rfl
theorem dX6_session_50 : decode cX6_session 50 = .ok (.iload_n 1, 1) := k_27 zcX6_session rfl rfl
theorem dX6_session_51 : decode cX6_session 51 = .ok (.iload 5, 2) := k_21 zcX6_session rfl rfl rfl
theorem dX6_session_53 : decode cX6_session 53 = .ok (.iload_n 2, 1) := k_28 zcX6_session rfl rfl
theorem dX6_session_54 : decode cX6_session 54 = .ok (.invokevirtual 304, 3) := k_182 zcX6_session rfl rfl rfl
theorem dX6_session_57 : decode cX6_session 57 = .ok (.iadd, 1) := k_96 zcX6_session rfl rfl
theorem dX6_session_58 : decode cX6_session 58 = .ok (.istore 5, 2) := k_54 zcX6_session rfl rfl rfl
theorem dX6_session_60 : decode cX6_session 60 = .ok (.iinc 6 1, 3) := k_132 zcX6_session rfl rfl rfl rfl
theorem dX6_session_63 : decode cX6_session 63 = .ok (.goto (-32), 3) := k_167 zcX6_session rfl rfl rfl
theorem dX6_session_66 : decode cX6_session 66 = .ok (.iload 5, 2) := k_21 zcX6_session rfl rfl rfl
theorem dX6_session_68 : decode cX6_session 68 = .ok (.aload_n 0, 1) := k_42 zcX6_session rfl rfl
theorem dX6_session_69 : decode cX6_session 69 = .ok (.iload_n 1, 1) := k_27 zcX6_session rfl rfl
theorem dX6_session_70 : decode cX6_session 70 = .ok (.invokevirtual 116, 3) := k_182 zcX6_session rfl rfl rfl
theorem dX6_session_73 : decode cX6_session 73 = .ok (.if_icmp .ge 28, 3) := k_162 zcX6_session rfl rfl rfl
theorem dX6_session_76 : decode cX6_session 76 = .ok (.aload_n 0, 1) := k_42 zcX6_session rfl rfl
theorem dX6_session_77 : decode cX6_session 77 = .ok (.iload_n 1, 1) := k_27 zcX6_session rfl rfl
theorem dX6_session_78 : decode cX6_session 78 = .ok (.iload 5, 2) := k_21 zcX6_session rfl rfl rfl
theorem dX6_session_80 : decode cX6_session 80 = .ok (.iload 5, 2) := k_21 zcX6_session rfl rfl rfl
theorem dX6_session_82 : decode cX6_session 82 = .ok (.aload_n 0, 1) := k_42 zcX6_session rfl rfl
theorem dX6_session_83 : decode cX6_session 83 = .ok (.iload_n 1, 1) := k_27 zcX6_session rfl rfl
theorem dX6_session_84 : decode cX6_session 84 = .ok (.iload 5, 2) := k_21 zcX6_session rfl rfl rfl
theorem dX6_session_86 : decode cX6_session 86 = .ok (.iload_n 2, 1) := k_28 zcX6_session rfl rfl
theorem dX6_session_87 : decode cX6_session 87 = .ok (.invokevirtual 304, 3) := k_182 zcX6_session rfl rfl rfl
theorem dX6_session_90 : decode cX6_session 90 = .ok (.iadd, 1) := k_96 zcX6_session rfl rfl
theorem dX6_session_91 : decode cX6_session 91 = .ok (.iconst 1, 1) := k_4 zcX6_session rfl rfl
theorem dX6_session_92 : decode cX6_session 92 = .ok (.isub, 1) := k_100 zcX6_session rfl rfl
theorem dX6_session_93 : decode cX6_session 93 = .ok (.iload 4, 2) := k_21 zcX6_session rfl rfl rfl
theorem dX6_session_95 : decode cX6_session 95 = .ok (.invokevirtual 243, 3) := k_182 zcX6_session rfl rfl rfl
theorem dX6_session_98 : decode cX6_session 98 = .ok (.goto 5, 3) := k_167 zcX6_session rfl rfl rfl
theorem dX6_session_101 : decode cX6_session 101 = .ok (.ldc 160, 2) := k_18 zcX6_session rfl rfl rfl
theorem dX6_session_103 : decode cX6_session 103 = .ok (.ireturn, 1) := k_172 zcX6_session rfl rfl
theorem dX6_longest_0 : decode cX6_longest 0 = .ok (.aload_n 0, 1) := k_42 zcX6_longest rfl rfl
theorem dX6_longest_1 : decode cX6_longest 1 = .ok (.iload_n 1, 1) := k_27 zcX6_longest rfl rfl
theorem dX6_longest_2 : decode cX6_longest 2 = .ok (.invokevirtual 124, 3) := k_182 zcX6_longest rfl rfl rfl
theorem dX6_longest_5 : decode cX6_longest 5 = .ok (.ifCond .eq 11, 3) := k_153 zcX6_longest rfl rfl rfl
theorem dX6_longest_8 : decode cX6_longest 8 = .ok (.aload_n 0, 1) := k_42 zcX6_longest rfl rfl
theorem dX6_longest_9 : decode cX6_longest 9 = .ok (.iload_n 2, 1) := k_28 zcX6_longest rfl rfl
theorem dX6_longest_10 : decode cX6_longest 10 = .ok (.invokevirtual 301, 3) := k_182 zcX6_longest rfl rfl rfl
theorem dX6_longest_13 : decode cX6_longest 13 = .ok (.ifCond .ne 5, 3) := k_154 zcX6_longest rfl rfl rfl
theorem dX6_longest_16 : decode cX6_longest 16 = .ok (.iconst (-1), 1) := k_2 zcX6_longest rfl rfl
theorem dX6_longest_17 : decode cX6_longest 17 = .ok (.ireturn, 1) := k_172 zcX6_longest rfl rfl
theorem dX6_longest_18 : decode cX6_longest 18 = .ok (.iconst (-1), 1) := k_2 zcX6_longest rfl rfl
theorem dX6_longest_19 : decode cX6_longest 19 = .ok (.istore_n 3, 1) := k_62 zcX6_longest rfl rfl
theorem dX6_longest_20 : decode cX6_longest 20 = .ok (.iconst 0, 1) := k_3 zcX6_longest rfl rfl
theorem dX6_longest_21 : decode cX6_longest 21 = .ok (.istore 4, 2) := k_54 zcX6_longest rfl rfl rfl
theorem dX6_longest_23 : decode cX6_longest 23 = .ok (.iconst 0, 1) := k_3 zcX6_longest rfl rfl
theorem dX6_longest_24 : decode cX6_longest 24 = .ok (.istore 5, 2) := k_54 zcX6_longest rfl rfl rfl
theorem dX6_longest_26 : decode cX6_longest 26 = .ok (.iconst 0, 1) := k_3 zcX6_longest rfl rfl
theorem dX6_longest_27 : decode cX6_longest 27 = .ok (.istore 6, 2) := k_54 zcX6_longest rfl rfl rfl
theorem dX6_longest_29 : decode cX6_longest 29 = .ok (.iload 6, 2) := k_21 zcX6_longest rfl rfl rfl
theorem dX6_longest_31 : decode cX6_longest 31 = .ok (.aload_n 0, 1) := k_42 zcX6_longest rfl rfl
theorem dX6_longest_32 : decode cX6_longest 32 = .ok (.iload_n 1, 1) := k_27 zcX6_longest rfl rfl
theorem dX6_longest_33 : decode cX6_longest 33 = .ok (.invokevirtual 116, 3) := k_182 zcX6_longest rfl rfl rfl
theorem dX6_longest_36 : decode cX6_longest 36 = .ok (.if_icmp .ge 48, 3) := k_162 zcX6_longest rfl rfl rfl
theorem dX6_longest_39 : decode cX6_longest 39 = .ok (.aload_n 0, 1) := k_42 zcX6_longest rfl rfl
theorem dX6_longest_40 : decode cX6_longest 40 = .ok (.iload_n 1, 1) := k_27 zcX6_longest rfl rfl
theorem dX6_longest_41 : decode cX6_longest 41 = .ok (.iload 6, 2) := k_21 zcX6_longest rfl rfl rfl
theorem dX6_longest_43 : decode cX6_longest 43 = .ok (.iload_n 2, 1) := k_28 zcX6_longest rfl rfl
theorem dX6_longest_44 : decode cX6_longest 44 = .ok (.invokevirtual 304, 3) := k_182 zcX6_longest rfl rfl rfl
theorem dX6_longest_47 : decode cX6_longest 47 = .ok (.iload 4, 2) := k_21 zcX6_longest rfl rfl rfl
theorem dX6_longest_49 : decode cX6_longest 49 = .ok (.if_icmp .le 16, 3) := k_164 zcX6_longest rfl rfl rfl
theorem dX6_longest_52 : decode cX6_longest 52 = .ok (.aload_n 0, 1) := k_42 zcX6_longest rfl rfl
theorem dX6_longest_53 : decode cX6_longest 53 = .ok (.iload_n 1, 1) := k_27 zcX6_longest rfl rfl
theorem dX6_longest_54 : decode cX6_longest 54 = .ok (.iload 6, 2) := k_21 zcX6_longest rfl rfl rfl
theorem dX6_longest_56 : decode cX6_longest 56 = .ok (.iload_n 2, 1) := k_28 zcX6_longest rfl rfl
theorem dX6_longest_57 : decode cX6_longest 57 = .ok (.invokevirtual 304, 3) := k_182 zcX6_longest rfl rfl rfl
theorem dX6_longest_60 : decode cX6_longest 60 = .ok (.istore 4, 2) := k_54 zcX6_longest rfl rfl rfl
theorem dX6_longest_62 : decode cX6_longest 62 = .ok (.iload 5, 2) := k_21 zcX6_longest rfl rfl rfl
theorem dX6_longest_64 : decode cX6_longest 64 = .ok (.istore_n 3, 1) := k_62 zcX6_longest rfl rfl
theorem dX6_longest_65 : decode cX6_longest 65 = .ok (.iinc 5 1, 3) := k_132 zcX6_longest rfl rfl rfl rfl
theorem dX6_longest_68 : decode cX6_longest 68 = .ok (.iload 6, 2) := k_21 zcX6_longest rfl rfl rfl
theorem dX6_longest_70 : decode cX6_longest 70 = .ok (.aload_n 0, 1) := k_42 zcX6_longest rfl rfl
theorem dX6_longest_71 : decode cX6_longest 71 = .ok (.iload_n 1, 1) := k_27 zcX6_longest rfl rfl
theorem dX6_longest_72 : decode cX6_longest 72 = .ok (.iload 6, 2) := k_21 zcX6_longest rfl rfl rfl
theorem dX6_longest_74 : decode cX6_longest 74 = .ok (.iload_n 2, 1) := k_28 zcX6_longest rfl rfl
theorem dX6_longest_75 : decode cX6_longest 75 = .ok (.invokevirtual 304, 3) := k_182 zcX6_longest rfl rfl rfl
theorem dX6_longest_78 : decode cX6_longest 78 = .ok (.iadd, 1) := k_96 zcX6_longest rfl rfl
theorem dX6_longest_79 : decode cX6_longest 79 = .ok (.istore 6, 2) := k_54 zcX6_longest rfl rfl rfl
theorem dX6_longest_81 : decode cX6_longest 81 = .ok (.goto (-52), 3) := k_167 zcX6_longest rfl rfl rfl
theorem dX6_longest_84 : decode cX6_longest 84 = .ok (.iload_n 3, 1) := k_29 zcX6_longest rfl rfl
theorem dX6_longest_85 : decode cX6_longest 85 = .ok (.ireturn, 1) := k_172 zcX6_longest rfl rfl
theorem dX6_lane_0 : decode cX6_lane 0 = .ok (.aload_n 0, 1) := k_42 zcX6_lane rfl rfl
theorem dX6_lane_1 : decode cX6_lane 1 = .ok (.iload_n 1, 1) := k_27 zcX6_lane rfl rfl
theorem dX6_lane_2 : decode cX6_lane 2 = .ok (.invokevirtual 124, 3) := k_182 zcX6_lane rfl rfl rfl
theorem dX6_lane_5 : decode cX6_lane 5 = .ok (.ifCond .ne 5, 3) := k_154 zcX6_lane rfl rfl rfl
theorem dX6_lane_8 : decode cX6_lane 8 = .ok (.iconst (-1), 1) := k_2 zcX6_lane rfl rfl
theorem dX6_lane_9 : decode cX6_lane 9 = .ok (.ireturn, 1) := k_172 zcX6_lane rfl rfl
theorem dX6_lane_10 : decode cX6_lane 10 = .ok (.iload_n 2, 1) := k_28 zcX6_lane rfl rfl
theorem dX6_lane_11 : decode cX6_lane 11 = .ok (.tableswitch 139 0 10 #[57, 64, 71, 78, 85, 91, 99, 107, 115, 123, 131], 57) := by decide +kernel
theorem dX6_lane_68 : decode cX6_lane 68 = .ok (.aload_n 0, 1) := k_42 zcX6_lane rfl rfl
theorem dX6_lane_69 : decode cX6_lane 69 = .ok (.iload_n 1, 1) := k_27 zcX6_lane rfl rfl
theorem dX6_lane_70 : decode cX6_lane 70 = .ok (.iconst 1, 1) := k_4 zcX6_lane rfl rfl
theorem dX6_lane_71 : decode cX6_lane 71 = .ok (.invokevirtual 80, 3) := k_182 zcX6_lane rfl rfl rfl
theorem dX6_lane_74 : decode cX6_lane 74 = .ok (.ireturn, 1) := k_172 zcX6_lane rfl rfl
theorem dX6_lane_75 : decode cX6_lane 75 = .ok (.aload_n 0, 1) := k_42 zcX6_lane rfl rfl
theorem dX6_lane_76 : decode cX6_lane 76 = .ok (.iload_n 1, 1) := k_27 zcX6_lane rfl rfl
theorem dX6_lane_77 : decode cX6_lane 77 = .ok (.iconst 2, 1) := k_5 zcX6_lane rfl rfl
theorem dX6_lane_78 : decode cX6_lane 78 = .ok (.invokevirtual 80, 3) := k_182 zcX6_lane rfl rfl rfl
theorem dX6_lane_81 : decode cX6_lane 81 = .ok (.ireturn, 1) := k_172 zcX6_lane rfl rfl
theorem dX6_lane_82 : decode cX6_lane 82 = .ok (.aload_n 0, 1) := k_42 zcX6_lane rfl rfl
theorem dX6_lane_83 : decode cX6_lane 83 = .ok (.iload_n 1, 1) := k_27 zcX6_lane rfl rfl
theorem dX6_lane_84 : decode cX6_lane 84 = .ok (.iconst 3, 1) := k_6 zcX6_lane rfl rfl
theorem dX6_lane_85 : decode cX6_lane 85 = .ok (.invokevirtual 80, 3) := k_182 zcX6_lane rfl rfl rfl
theorem dX6_lane_88 : decode cX6_lane 88 = .ok (.ireturn, 1) := k_172 zcX6_lane rfl rfl
theorem dX6_lane_89 : decode cX6_lane 89 = .ok (.aload_n 0, 1) := k_42 zcX6_lane rfl rfl
theorem dX6_lane_90 : decode cX6_lane 90 = .ok (.iload_n 1, 1) := k_27 zcX6_lane rfl rfl
theorem dX6_lane_91 : decode cX6_lane 91 = .ok (.iconst 4, 1) := k_7 zcX6_lane rfl rfl
theorem dX6_lane_92 : decode cX6_lane 92 = .ok (.invokevirtual 80, 3) := k_182 zcX6_lane rfl rfl rfl
theorem dX6_lane_95 : decode cX6_lane 95 = .ok (.ireturn, 1) := k_172 zcX6_lane rfl rfl
theorem dX6_lane_96 : decode cX6_lane 96 = .ok (.aload_n 0, 1) := k_42 zcX6_lane rfl rfl
theorem dX6_lane_97 : decode cX6_lane 97 = .ok (.iload_n 1, 1) := k_27 zcX6_lane rfl rfl
theorem dX6_lane_98 : decode cX6_lane 98 = .ok (.invokevirtual 116, 3) := k_182 zcX6_lane rfl rfl rfl
theorem dX6_lane_101 : decode cX6_lane 101 = .ok (.ireturn, 1) := k_172 zcX6_lane rfl rfl
theorem dX6_lane_102 : decode cX6_lane 102 = .ok (.aload_n 0, 1) := k_42 zcX6_lane rfl rfl
theorem dX6_lane_103 : decode cX6_lane 103 = .ok (.iload_n 1, 1) := k_27 zcX6_lane rfl rfl
theorem dX6_lane_104 : decode cX6_lane 104 = .ok (.bipush 6, 2) := k_16 zcX6_lane rfl rfl rfl
theorem dX6_lane_106 : decode cX6_lane 106 = .ok (.invokevirtual 80, 3) := k_182 zcX6_lane rfl rfl rfl
theorem dX6_lane_109 : decode cX6_lane 109 = .ok (.ireturn, 1) := k_172 zcX6_lane rfl rfl
theorem dX6_lane_110 : decode cX6_lane 110 = .ok (.aload_n 0, 1) := k_42 zcX6_lane rfl rfl
theorem dX6_lane_111 : decode cX6_lane 111 = .ok (.iload_n 1, 1) := k_27 zcX6_lane rfl rfl
theorem dX6_lane_112 : decode cX6_lane 112 = .ok (.bipush 7, 2) := k_16 zcX6_lane rfl rfl rfl
theorem dX6_lane_114 : decode cX6_lane 114 = .ok (.invokevirtual 80, 3) := k_182 zcX6_lane rfl rfl rfl
theorem dX6_lane_117 : decode cX6_lane 117 = .ok (.ireturn, 1) := k_172 zcX6_lane rfl rfl
theorem dX6_lane_118 : decode cX6_lane 118 = .ok (.aload_n 0, 1) := k_42 zcX6_lane rfl rfl
theorem dX6_lane_119 : decode cX6_lane 119 = .ok (.iload_n 1, 1) := k_27 zcX6_lane rfl rfl
theorem dX6_lane_120 : decode cX6_lane 120 = .ok (.bipush 8, 2) := k_16 zcX6_lane rfl rfl rfl
theorem dX6_lane_122 : decode cX6_lane 122 = .ok (.invokevirtual 80, 3) := k_182 zcX6_lane rfl rfl rfl
theorem dX6_lane_125 : decode cX6_lane 125 = .ok (.ireturn, 1) := k_172 zcX6_lane rfl rfl
theorem dX6_lane_126 : decode cX6_lane 126 = .ok (.aload_n 0, 1) := k_42 zcX6_lane rfl rfl
theorem dX6_lane_127 : decode cX6_lane 127 = .ok (.iload_n 1, 1) := k_27 zcX6_lane rfl rfl
theorem dX6_lane_128 : decode cX6_lane 128 = .ok (.bipush 9, 2) := k_16 zcX6_lane rfl rfl rfl
theorem dX6_lane_130 : decode cX6_lane 130 = .ok (.invokevirtual 80, 3) := k_182 zcX6_lane rfl rfl rfl
theorem dX6_lane_133 : decode cX6_lane 133 = .ok (.ireturn, 1) := k_172 zcX6_lane rfl rfl
theorem dX6_lane_134 : decode cX6_lane 134 = .ok (.aload_n 0, 1) := k_42 zcX6_lane rfl rfl
theorem dX6_lane_135 : decode cX6_lane 135 = .ok (.iload_n 1, 1) := k_27 zcX6_lane rfl rfl
theorem dX6_lane_136 : decode cX6_lane 136 = .ok (.bipush 10, 2) := k_16 zcX6_lane rfl rfl rfl
theorem dX6_lane_138 : decode cX6_lane 138 = .ok (.invokevirtual 80, 3) := k_182 zcX6_lane rfl rfl rfl
theorem dX6_lane_141 : decode cX6_lane 141 = .ok (.ireturn, 1) := k_172 zcX6_lane rfl rfl
theorem dX6_lane_142 : decode cX6_lane 142 = .ok (.aload_n 0, 1) := k_42 zcX6_lane rfl rfl
theorem dX6_lane_143 : decode cX6_lane 143 = .ok (.iload_n 1, 1) := k_27 zcX6_lane rfl rfl
theorem dX6_lane_144 : decode cX6_lane 144 = .ok (.bipush 11, 2) := k_16 zcX6_lane rfl rfl rfl
theorem dX6_lane_146 : decode cX6_lane 146 = .ok (.invokevirtual 80, 3) := k_182 zcX6_lane rfl rfl rfl
theorem dX6_lane_149 : decode cX6_lane 149 = .ok (.ireturn, 1) := k_172 zcX6_lane rfl rfl
theorem dX6_lane_150 : decode cX6_lane 150 = .ok (.iconst (-1), 1) := k_2 zcX6_lane rfl rfl
theorem dX6_lane_151 : decode cX6_lane 151 = .ok (.ireturn, 1) := k_172 zcX6_lane rfl rfl
theorem dX6_copyLane_0 : decode cX6_copyLane 0 = .ok (.iconst 0, 1) := k_3 zcX6_copyLane rfl rfl
theorem dX6_copyLane_1 : decode cX6_copyLane 1 = .ok (.istore_n 3, 1) := k_62 zcX6_copyLane rfl rfl
theorem dX6_copyLane_2 : decode cX6_copyLane 2 = .ok (.iload_n 3, 1) := k_29 zcX6_copyLane rfl rfl
theorem dX6_copyLane_3 : decode cX6_copyLane 3 = .ok (.bipush 22, 2) := k_16 zcX6_copyLane rfl rfl rfl
theorem dX6_copyLane_5 : decode cX6_copyLane 5 = .ok (.if_icmp .ge 21, 3) := k_162 zcX6_copyLane rfl rfl rfl
theorem dX6_copyLane_8 : decode cX6_copyLane 8 = .ok (.aload_n 0, 1) := k_42 zcX6_copyLane rfl rfl
theorem dX6_copyLane_9 : decode cX6_copyLane 9 = .ok (.iload_n 2, 1) := k_28 zcX6_copyLane rfl rfl
theorem dX6_copyLane_10 : decode cX6_copyLane 10 = .ok (.iload_n 3, 1) := k_29 zcX6_copyLane rfl rfl
theorem dX6_copyLane_11 : decode cX6_copyLane 11 = .ok (.aload_n 0, 1) := k_42 zcX6_copyLane rfl rfl
theorem dX6_copyLane_12 : decode cX6_copyLane 12 = .ok (.iload_n 1, 1) := k_27 zcX6_copyLane rfl rfl
theorem dX6_copyLane_13 : decode cX6_copyLane 13 = .ok (.iload_n 3, 1) := k_29 zcX6_copyLane rfl rfl
theorem dX6_copyLane_14 : decode cX6_copyLane 14 = .ok (.invokevirtual 80, 3) := k_182 zcX6_copyLane rfl rfl rfl
theorem dX6_copyLane_17 : decode cX6_copyLane 17 = .ok (.invokevirtual 173, 3) := k_182 zcX6_copyLane rfl rfl rfl
theorem dX6_copyLane_20 : decode cX6_copyLane 20 = .ok (.iinc 3 1, 3) := k_132 zcX6_copyLane rfl rfl rfl rfl
theorem dX6_copyLane_23 : decode cX6_copyLane 23 = .ok (.goto (-21), 3) := k_167 zcX6_copyLane rfl rfl rfl
theorem dX6_copyLane_26 : decode cX6_copyLane 26 = .ok (.iconst 0, 1) := k_3 zcX6_copyLane rfl rfl
theorem dX6_copyLane_27 : decode cX6_copyLane 27 = .ok (.istore_n 3, 1) := k_62 zcX6_copyLane rfl rfl
theorem dX6_copyLane_28 : decode cX6_copyLane 28 = .ok (.iload_n 3, 1) := k_29 zcX6_copyLane rfl rfl
theorem dX6_copyLane_29 : decode cX6_copyLane 29 = .ok (.aload_n 0, 1) := k_42 zcX6_copyLane rfl rfl
theorem dX6_copyLane_30 : decode cX6_copyLane 30 = .ok (.iload_n 1, 1) := k_27 zcX6_copyLane rfl rfl
theorem dX6_copyLane_31 : decode cX6_copyLane 31 = .ok (.invokevirtual 116, 3) := k_182 zcX6_copyLane rfl rfl rfl
theorem dX6_copyLane_34 : decode cX6_copyLane 34 = .ok (.if_icmp .ge 25, 3) := k_162 zcX6_copyLane rfl rfl rfl
theorem dX6_copyLane_37 : decode cX6_copyLane 37 = .ok (.aload_n 0, 1) := k_42 zcX6_copyLane rfl rfl
theorem dX6_copyLane_38 : decode cX6_copyLane 38 = .ok (.bipush 121, 2) := k_16 zcX6_copyLane rfl rfl rfl
theorem dX6_copyLane_40 : decode cX6_copyLane 40 = .ok (.iload_n 1, 1) := k_27 zcX6_copyLane rfl rfl
theorem dX6_copyLane_41 : decode cX6_copyLane 41 = .ok (.imul, 1) := k_104 zcX6_copyLane rfl rfl
theorem dX6_copyLane_42 : decode cX6_copyLane 42 = .ok (.iload_n 3, 1) := k_29 zcX6_copyLane rfl rfl
theorem dX6_copyLane_43 : decode cX6_copyLane 43 = .ok (.iadd, 1) := k_96 zcX6_copyLane rfl rfl
theorem dX6_copyLane_44 : decode cX6_copyLane 44 = .ok (.bipush 121, 2) := k_16 zcX6_copyLane rfl rfl rfl
theorem dX6_copyLane_46 : decode cX6_copyLane 46 = .ok (.iload_n 2, 1) := k_28 zcX6_copyLane rfl rfl
theorem dX6_copyLane_47 : decode cX6_copyLane 47 = .ok (.imul, 1) := k_104 zcX6_copyLane rfl rfl
theorem dX6_copyLane_48 : decode cX6_copyLane 48 = .ok (.iload_n 3, 1) := k_29 zcX6_copyLane rfl rfl
theorem dX6_copyLane_49 : decode cX6_copyLane 49 = .ok (.iadd, 1) := k_96 zcX6_copyLane rfl rfl
theorem dX6_copyLane_50 : decode cX6_copyLane 50 = .ok (.invokevirtual 213, 3) := k_182 zcX6_copyLane rfl rfl rfl
theorem dX6_copyLane_53 : decode cX6_copyLane 53 = .ok (.iinc 3 1, 3) := k_132 zcX6_copyLane rfl rfl rfl rfl
theorem dX6_copyLane_56 : decode cX6_copyLane 56 = .ok (.goto (-28), 3) := k_167 zcX6_copyLane rfl rfl rfl
theorem dX6_copyLane_59 : decode cX6_copyLane 59 = .ok (.return_, 1) := k_177 zcX6_copyLane rfl rfl
theorem dX6_keep_0 : decode cX6_keep 0 = .ok (.aload_n 0, 1) := k_42 zcX6_keep rfl rfl
theorem dX6_keep_1 : decode cX6_keep 1 = .ok (.iload_n 1, 1) := k_27 zcX6_keep rfl rfl
theorem dX6_keep_2 : decode cX6_keep 2 = .ok (.invokevirtual 124, 3) := k_182 zcX6_keep rfl rfl rfl
theorem dX6_keep_5 : decode cX6_keep 5 = .ok (.ifCond .eq 12, 3) := k_153 zcX6_keep rfl rfl rfl
theorem dX6_keep_8 : decode cX6_keep 8 = .ok (.iload_n 2, 1) := k_28 zcX6_keep rfl rfl
theorem dX6_keep_9 : decode cX6_keep 9 = .ok (.iconst 0, 1) := k_3 zcX6_keep rfl rfl
theorem dX6_keep_10 : decode cX6_keep 10 = .ok (.iconst 2, 1) := k_5 zcX6_keep rfl rfl
theorem dX6_keep_11 : decode cX6_keep 11 = .ok (.invokestatic 76, 3) := k_184 zcX6_keep rfl rfl rfl
theorem dX6_keep_14 : decode cX6_keep 14 = .ok (.ifCond .ne 5, 3) := k_154 zcX6_keep rfl rfl rfl
theorem dX6_keep_17 : decode cX6_keep 17 = .ok (.iconst (-1), 1) := k_2 zcX6_keep rfl rfl
theorem dX6_keep_18 : decode cX6_keep 18 = .ok (.ireturn, 1) := k_172 zcX6_keep rfl rfl
theorem dX6_keep_19 : decode cX6_keep 19 = .ok (.aload_n 0, 1) := k_42 zcX6_keep rfl rfl
theorem dX6_keep_20 : decode cX6_keep 20 = .ok (.iload_n 1, 1) := k_27 zcX6_keep rfl rfl
theorem dX6_keep_21 : decode cX6_keep 21 = .ok (.iconst 4, 1) := k_7 zcX6_keep rfl rfl
theorem dX6_keep_22 : decode cX6_keep 22 = .ok (.iload_n 2, 1) := k_28 zcX6_keep rfl rfl
theorem dX6_keep_23 : decode cX6_keep 23 = .ok (.iadd, 1) := k_96 zcX6_keep rfl rfl
theorem dX6_keep_24 : decode cX6_keep 24 = .ok (.invokevirtual 292, 3) := k_182 zcX6_keep rfl rfl rfl
theorem dX6_keep_27 : decode cX6_keep 27 = .ok (.aload_n 0, 1) := k_42 zcX6_keep rfl rfl
theorem dX6_keep_28 : decode cX6_keep 28 = .ok (.iconst 4, 1) := k_7 zcX6_keep rfl rfl
theorem dX6_keep_29 : decode cX6_keep 29 = .ok (.iload_n 2, 1) := k_28 zcX6_keep rfl rfl
theorem dX6_keep_30 : decode cX6_keep 30 = .ok (.iadd, 1) := k_96 zcX6_keep rfl rfl
theorem dX6_keep_31 : decode cX6_keep 31 = .ok (.bipush 21, 2) := k_16 zcX6_keep rfl rfl rfl
theorem dX6_keep_33 : decode cX6_keep 33 = .ok (.iload_n 1, 1) := k_27 zcX6_keep rfl rfl
theorem dX6_keep_34 : decode cX6_keep 34 = .ok (.invokevirtual 173, 3) := k_182 zcX6_keep rfl rfl rfl
theorem dX6_keep_37 : decode cX6_keep 37 = .ok (.aload_n 0, 1) := k_42 zcX6_keep rfl rfl
theorem dX6_keep_38 : decode cX6_keep 38 = .ok (.iload_n 1, 1) := k_27 zcX6_keep rfl rfl
theorem dX6_keep_39 : decode cX6_keep 39 = .ok (.invokevirtual 116, 3) := k_182 zcX6_keep rfl rfl rfl
theorem dX6_keep_42 : decode cX6_keep 42 = .ok (.ireturn, 1) := k_172 zcX6_keep rfl rfl
theorem dX6_back_0 : decode cX6_back 0 = .ok (.iload_n 1, 1) := k_27 zcX6_back rfl rfl
theorem dX6_back_1 : decode cX6_back 1 = .ok (.iconst 0, 1) := k_3 zcX6_back rfl rfl
theorem dX6_back_2 : decode cX6_back 2 = .ok (.iconst 2, 1) := k_5 zcX6_back rfl rfl
theorem dX6_back_3 : decode cX6_back 3 = .ok (.invokestatic 76, 3) := k_184 zcX6_back rfl rfl rfl
theorem dX6_back_6 : decode cX6_back 6 = .ok (.ifCond .eq 14, 3) := k_153 zcX6_back rfl rfl rfl
theorem dX6_back_9 : decode cX6_back 9 = .ok (.aload_n 0, 1) := k_42 zcX6_back rfl rfl
theorem dX6_back_10 : decode cX6_back 10 = .ok (.iconst 4, 1) := k_7 zcX6_back rfl rfl
theorem dX6_back_11 : decode cX6_back 11 = .ok (.iload_n 1, 1) := k_27 zcX6_back rfl rfl
theorem dX6_back_12 : decode cX6_back 12 = .ok (.iadd, 1) := k_96 zcX6_back rfl rfl
theorem dX6_back_13 : decode cX6_back 13 = .ok (.iconst 0, 1) := k_3 zcX6_back rfl rfl
theorem dX6_back_14 : decode cX6_back 14 = .ok (.invokevirtual 80, 3) := k_182 zcX6_back rfl rfl rfl
theorem dX6_back_17 : decode cX6_back 17 = .ok (.ifCond .ne 5, 3) := k_154 zcX6_back rfl rfl rfl
theorem dX6_back_20 : decode cX6_back 20 = .ok (.iconst (-1), 1) := k_2 zcX6_back rfl rfl
theorem dX6_back_21 : decode cX6_back 21 = .ok (.ireturn, 1) := k_172 zcX6_back rfl rfl
theorem dX6_back_22 : decode cX6_back 22 = .ok (.aload_n 0, 1) := k_42 zcX6_back rfl rfl
theorem dX6_back_23 : decode cX6_back 23 = .ok (.iconst 4, 1) := k_7 zcX6_back rfl rfl
theorem dX6_back_24 : decode cX6_back 24 = .ok (.iload_n 1, 1) := k_27 zcX6_back rfl rfl
theorem dX6_back_25 : decode cX6_back 25 = .ok (.iadd, 1) := k_96 zcX6_back rfl rfl
theorem dX6_back_26 : decode cX6_back 26 = .ok (.bipush 21, 2) := k_16 zcX6_back rfl rfl rfl
theorem dX6_back_28 : decode cX6_back 28 = .ok (.invokevirtual 80, 3) := k_182 zcX6_back rfl rfl rfl
theorem dX6_back_31 : decode cX6_back 31 = .ok (.istore_n 2, 1) := k_61 zcX6_back rfl rfl
theorem dX6_back_32 : decode cX6_back 32 = .ok (.aload_n 0, 1) := k_42 zcX6_back rfl rfl
theorem dX6_back_33 : decode cX6_back 33 = .ok (.iconst 4, 1) := k_7 zcX6_back rfl rfl
theorem dX6_back_34 : decode cX6_back 34 = .ok (.iload_n 1, 1) := k_27 zcX6_back rfl rfl
theorem dX6_back_35 : decode cX6_back 35 = .ok (.iadd, 1) := k_96 zcX6_back rfl rfl
theorem dX6_back_36 : decode cX6_back 36 = .ok (.iload_n 2, 1) := k_28 zcX6_back rfl rfl
theorem dX6_back_37 : decode cX6_back 37 = .ok (.invokevirtual 292, 3) := k_182 zcX6_back rfl rfl rfl
theorem dX6_back_40 : decode cX6_back 40 = .ok (.aload_n 0, 1) := k_42 zcX6_back rfl rfl
theorem dX6_back_41 : decode cX6_back 41 = .ok (.iload_n 2, 1) := k_28 zcX6_back rfl rfl
theorem dX6_back_42 : decode cX6_back 42 = .ok (.invokevirtual 176, 3) := k_182 zcX6_back rfl rfl rfl
theorem dX6_back_45 : decode cX6_back 45 = .ok (.aload_n 0, 1) := k_42 zcX6_back rfl rfl
theorem dX6_back_46 : decode cX6_back 46 = .ok (.iload_n 2, 1) := k_28 zcX6_back rfl rfl
theorem dX6_back_47 : decode cX6_back 47 = .ok (.invokevirtual 179, 3) := k_182 zcX6_back rfl rfl rfl
theorem dX6_back_50 : decode cX6_back 50 = .ok (.aload_n 0, 1) := k_42 zcX6_back rfl rfl
theorem dX6_back_51 : decode cX6_back 51 = .ok (.iload_n 2, 1) := k_28 zcX6_back rfl rfl
theorem dX6_back_52 : decode cX6_back 52 = .ok (.invokevirtual 116, 3) := k_182 zcX6_back rfl rfl rfl
theorem dX6_back_55 : decode cX6_back 55 = .ok (.ireturn, 1) := k_172 zcX6_back rfl rfl
theorem dX6_sumOf_0 : decode cX6_sumOf 0 = .ok (.iconst 0, 1) := k_3 zcX6_sumOf rfl rfl
theorem dX6_sumOf_1 : decode cX6_sumOf 1 = .ok (.istore_n 2, 1) := k_61 zcX6_sumOf rfl rfl
theorem dX6_sumOf_2 : decode cX6_sumOf 2 = .ok (.iconst 0, 1) := k_3 zcX6_sumOf rfl rfl
theorem dX6_sumOf_3 : decode cX6_sumOf 3 = .ok (.istore_n 3, 1) := k_62 zcX6_sumOf rfl rfl
theorem dX6_sumOf_4 : decode cX6_sumOf 4 = .ok (.iload_n 3, 1) := k_29 zcX6_sumOf rfl rfl
theorem dX6_sumOf_5 : decode cX6_sumOf 5 = .ok (.iconst 4, 1) := k_7 zcX6_sumOf rfl rfl
theorem dX6_sumOf_6 : decode cX6_sumOf 6 = .ok (.if_icmp .ge 32, 3) := k_162 zcX6_sumOf rfl rfl rfl
theorem dX6_sumOf_9 : decode cX6_sumOf 9 = .ok (.iload_n 2, 1) := k_28 zcX6_sumOf rfl rfl
theorem dX6_sumOf_10 : decode cX6_sumOf 10 = .ok (.aload_n 0, 1) := k_42 zcX6_sumOf rfl rfl
theorem dX6_sumOf_11 : decode cX6_sumOf 11 = .ok (.iload_n 3, 1) := k_29 zcX6_sumOf rfl rfl
theorem dX6_sumOf_12 : decode cX6_sumOf 12 = .ok (.iconst 0, 1) := k_3 zcX6_sumOf rfl rfl
theorem dX6_sumOf_13 : decode cX6_sumOf 13 = .ok (.invokevirtual 80, 3) := k_182 zcX6_sumOf rfl rfl rfl
theorem dX6_sumOf_16 : decode cX6_sumOf 16 = .ok (.iconst 1, 1) := k_4 zcX6_sumOf rfl rfl
theorem dX6_sumOf_17 : decode cX6_sumOf 17 = .ok (.if_icmp .ne 12, 3) := k_160 zcX6_sumOf rfl rfl rfl
theorem dX6_sumOf_20 : decode cX6_sumOf 20 = .ok (.aload_n 0, 1) := k_42 zcX6_sumOf rfl rfl
theorem dX6_sumOf_21 : decode cX6_sumOf 21 = .ok (.iload_n 3, 1) := k_29 zcX6_sumOf rfl rfl
theorem dX6_sumOf_22 : decode cX6_sumOf 22 = .ok (.iload_n 1, 1) := k_27 zcX6_sumOf rfl rfl
theorem dX6_sumOf_23 : decode cX6_sumOf 23 = .ok (.invokevirtual 80, 3) := k_182 zcX6_sumOf rfl rfl rfl
theorem dX6_sumOf_26 : decode cX6_sumOf 26 = .ok (.goto 4, 3) := k_167 zcX6_sumOf rfl rfl rfl
theorem dX6_sumOf_29 : decode cX6_sumOf 29 = .ok (.iconst 0, 1) := k_3 zcX6_sumOf rfl rfl
theorem dX6_sumOf_30 : decode cX6_sumOf 30 = .ok (.iadd, 1) := k_96 zcX6_sumOf rfl rfl
theorem dX6_sumOf_31 : decode cX6_sumOf 31 = .ok (.istore_n 2, 1) := k_61 zcX6_sumOf rfl rfl
theorem dX6_sumOf_32 : decode cX6_sumOf 32 = .ok (.iinc 3 1, 3) := k_132 zcX6_sumOf rfl rfl rfl rfl
theorem dX6_sumOf_35 : decode cX6_sumOf 35 = .ok (.goto (-31), 3) := k_167 zcX6_sumOf rfl rfl rfl
theorem dX6_sumOf_38 : decode cX6_sumOf 38 = .ok (.iload_n 2, 1) := k_28 zcX6_sumOf rfl rfl
theorem dX6_sumOf_39 : decode cX6_sumOf 39 = .ok (.ireturn, 1) := k_172 zcX6_sumOf rfl rfl
theorem dX6_boxesNow_0 : decode cX6_boxesNow 0 = .ok (.iconst 0, 1) := k_3 zcX6_boxesNow rfl rfl
theorem dX6_boxesNow_1 : decode cX6_boxesNow 1 = .ok (.istore_n 1, 1) := k_60 zcX6_boxesNow rfl rfl
theorem dX6_boxesNow_2 : decode cX6_boxesNow 2 = .ok (.iconst 0, 1) := k_3 zcX6_boxesNow rfl rfl
theorem dX6_boxesNow_3 : decode cX6_boxesNow 3 = .ok (.istore_n 2, 1) := k_61 zcX6_boxesNow rfl rfl
theorem dX6_boxesNow_4 : decode cX6_boxesNow 4 = .ok (.iload_n 2, 1) := k_28 zcX6_boxesNow rfl rfl
theorem dX6_boxesNow_5 : decode cX6_boxesNow 5 = .ok (.iconst 3, 1) := k_6 zcX6_boxesNow rfl rfl
theorem dX6_boxesNow_6 : decode cX6_boxesNow 6 = .ok (.if_icmp .ge 20, 3) := k_162 zcX6_boxesNow rfl rfl rfl
theorem dX6_boxesNow_9 : decode cX6_boxesNow 9 = .ok (.iload_n 1, 1) := k_27 zcX6_boxesNow rfl rfl
theorem dX6_boxesNow_10 : decode cX6_boxesNow 10 = .ok (.aload_n 0, 1) := k_42 zcX6_boxesNow rfl rfl
theorem dX6_boxesNow_11 : decode cX6_boxesNow 11 = .ok (.iconst 4, 1) := k_7 zcX6_boxesNow rfl rfl
theorem dX6_boxesNow_12 : decode cX6_boxesNow 12 = .ok (.iload_n 2, 1) := k_28 zcX6_boxesNow rfl rfl
theorem dX6_boxesNow_13 : decode cX6_boxesNow 13 = .ok (.iadd, 1) := k_96 zcX6_boxesNow rfl rfl
theorem dX6_boxesNow_14 : decode cX6_boxesNow 14 = .ok (.iconst 0, 1) := k_3 zcX6_boxesNow rfl rfl
theorem dX6_boxesNow_15 : decode cX6_boxesNow 15 = .ok (.invokevirtual 80, 3) := k_182 zcX6_boxesNow rfl rfl rfl
theorem dX6_boxesNow_18 : decode cX6_boxesNow 18 = .ok (.iadd, 1) := k_96 zcX6_boxesNow rfl rfl
theorem dX6_boxesNow_19 : decode cX6_boxesNow 19 = .ok (.istore_n 1, 1) := k_60 zcX6_boxesNow rfl rfl
theorem dX6_boxesNow_20 : decode cX6_boxesNow 20 = .ok (.iinc 2 1, 3) := k_132 zcX6_boxesNow rfl rfl rfl rfl
theorem dX6_boxesNow_23 : decode cX6_boxesNow 23 = .ok (.goto (-19), 3) := k_167 zcX6_boxesNow rfl rfl rfl
theorem dX6_boxesNow_26 : decode cX6_boxesNow 26 = .ok (.iload_n 1, 1) := k_27 zcX6_boxesNow rfl rfl
theorem dX6_boxesNow_27 : decode cX6_boxesNow 27 = .ok (.ireturn, 1) := k_172 zcX6_boxesNow rfl rfl
theorem dX6_toldNow_0 : decode cX6_toldNow 0 = .ok (.iconst 0, 1) := k_3 zcX6_toldNow rfl rfl
theorem dX6_toldNow_1 : decode cX6_toldNow 1 = .ok (.istore_n 2, 1) := k_61 zcX6_toldNow rfl rfl
theorem dX6_toldNow_2 : decode cX6_toldNow 2 = .ok (.iconst 0, 1) := k_3 zcX6_toldNow rfl rfl
theorem dX6_toldNow_3 : decode cX6_toldNow 3 = .ok (.istore_n 3, 1) := k_62 zcX6_toldNow rfl rfl
theorem dX6_toldNow_4 : decode cX6_toldNow 4 = .ok (.iload_n 3, 1) := k_29 zcX6_toldNow rfl rfl
theorem dX6_toldNow_5 : decode cX6_toldNow 5 = .ok (.bipush 8, 2) := k_16 zcX6_toldNow rfl rfl rfl
theorem dX6_toldNow_7 : decode cX6_toldNow 7 = .ok (.if_icmp .ge 34, 3) := k_162 zcX6_toldNow rfl rfl rfl
theorem dX6_toldNow_10 : decode cX6_toldNow 10 = .ok (.aload_n 0, 1) := k_42 zcX6_toldNow rfl rfl
theorem dX6_toldNow_11 : decode cX6_toldNow 11 = .ok (.iload_n 3, 1) := k_29 zcX6_toldNow rfl rfl
theorem dX6_toldNow_12 : decode cX6_toldNow 12 = .ok (.invokevirtual 210, 3) := k_182 zcX6_toldNow rfl rfl rfl
theorem dX6_toldNow_15 : decode cX6_toldNow 15 = .ok (.ifCond .eq 20, 3) := k_153 zcX6_toldNow rfl rfl rfl
theorem dX6_toldNow_18 : decode cX6_toldNow 18 = .ok (.iload_n 2, 1) := k_28 zcX6_toldNow rfl rfl
theorem dX6_toldNow_19 : decode cX6_toldNow 19 = .ok (.iload_n 1, 1) := k_27 zcX6_toldNow rfl rfl
theorem dX6_toldNow_20 : decode cX6_toldNow 20 = .ok (.ifCond .eq 12, 3) := k_153 zcX6_toldNow rfl rfl rfl
theorem dX6_toldNow_23 : decode cX6_toldNow 23 = .ok (.aload_n 0, 1) := k_42 zcX6_toldNow rfl rfl
theorem dX6_toldNow_24 : decode cX6_toldNow 24 = .ok (.getfield 46, 3) := k_180 zcX6_toldNow rfl rfl rfl
theorem dX6_toldNow_27 : decode cX6_toldNow 27 = .ok (.iload_n 3, 1) := k_29 zcX6_toldNow rfl rfl
theorem dX6_toldNow_28 : decode cX6_toldNow 28 = .ok (.iaload, 1) := k_46 zcX6_toldNow rfl rfl
theorem dX6_toldNow_29 : decode cX6_toldNow 29 = .ok (.goto 4, 3) := k_167 zcX6_toldNow rfl rfl rfl
theorem dX6_toldNow_32 : decode cX6_toldNow 32 = .ok (.iconst 1, 1) := k_4 zcX6_toldNow rfl rfl
theorem dX6_toldNow_33 : decode cX6_toldNow 33 = .ok (.iadd, 1) := k_96 zcX6_toldNow rfl rfl
theorem dX6_toldNow_34 : decode cX6_toldNow 34 = .ok (.istore_n 2, 1) := k_61 zcX6_toldNow rfl rfl
theorem dX6_toldNow_35 : decode cX6_toldNow 35 = .ok (.iinc 3 1, 3) := k_132 zcX6_toldNow rfl rfl rfl rfl
theorem dX6_toldNow_38 : decode cX6_toldNow 38 = .ok (.goto (-34), 3) := k_167 zcX6_toldNow rfl rfl rfl
theorem dX6_toldNow_41 : decode cX6_toldNow 41 = .ok (.iload_n 2, 1) := k_28 zcX6_toldNow rfl rfl
theorem dX6_toldNow_42 : decode cX6_toldNow 42 = .ok (.ireturn, 1) := k_172 zcX6_toldNow rfl rfl
theorem dX6_linksNow_0 : decode cX6_linksNow 0 = .ok (.iconst 0, 1) := k_3 zcX6_linksNow rfl rfl
theorem dX6_linksNow_1 : decode cX6_linksNow 1 = .ok (.istore_n 1, 1) := k_60 zcX6_linksNow rfl rfl
theorem dX6_linksNow_2 : decode cX6_linksNow 2 = .ok (.iconst 0, 1) := k_3 zcX6_linksNow rfl rfl
theorem dX6_linksNow_3 : decode cX6_linksNow 3 = .ok (.istore_n 2, 1) := k_61 zcX6_linksNow rfl rfl
theorem dX6_linksNow_4 : decode cX6_linksNow 4 = .ok (.iload_n 2, 1) := k_28 zcX6_linksNow rfl rfl
theorem dX6_linksNow_5 : decode cX6_linksNow 5 = .ok (.iconst 4, 1) := k_7 zcX6_linksNow rfl rfl
theorem dX6_linksNow_6 : decode cX6_linksNow 6 = .ok (.if_icmp .ge 26, 3) := k_162 zcX6_linksNow rfl rfl rfl
theorem dX6_linksNow_9 : decode cX6_linksNow 9 = .ok (.iload_n 1, 1) := k_27 zcX6_linksNow rfl rfl
theorem dX6_linksNow_10 : decode cX6_linksNow 10 = .ok (.aload_n 0, 1) := k_42 zcX6_linksNow rfl rfl
theorem dX6_linksNow_11 : decode cX6_linksNow 11 = .ok (.getfield 52, 3) := k_180 zcX6_linksNow rfl rfl rfl
theorem dX6_linksNow_14 : decode cX6_linksNow 14 = .ok (.iload_n 2, 1) := k_28 zcX6_linksNow rfl rfl
theorem dX6_linksNow_15 : decode cX6_linksNow 15 = .ok (.iaload, 1) := k_46 zcX6_linksNow rfl rfl
theorem dX6_linksNow_16 : decode cX6_linksNow 16 = .ok (.ifCond .lt 7, 3) := k_155 zcX6_linksNow rfl rfl rfl
theorem dX6_linksNow_19 : decode cX6_linksNow 19 = .ok (.iconst 1, 1) := k_4 zcX6_linksNow rfl rfl
theorem dX6_linksNow_20 : decode cX6_linksNow 20 = .ok (.goto 4, 3) := k_167 zcX6_linksNow rfl rfl rfl
theorem dX6_linksNow_23 : decode cX6_linksNow 23 = .ok (.iconst 0, 1) := k_3 zcX6_linksNow rfl rfl
theorem dX6_linksNow_24 : decode cX6_linksNow 24 = .ok (.iadd, 1) := k_96 zcX6_linksNow rfl rfl
theorem dX6_linksNow_25 : decode cX6_linksNow 25 = .ok (.istore_n 1, 1) := k_60 zcX6_linksNow rfl rfl
theorem dX6_linksNow_26 : decode cX6_linksNow 26 = .ok (.iinc 2 1, 3) := k_132 zcX6_linksNow rfl rfl rfl rfl
theorem dX6_linksNow_29 : decode cX6_linksNow 29 = .ok (.goto (-25), 3) := k_167 zcX6_linksNow rfl rfl rfl
theorem dX6_linksNow_32 : decode cX6_linksNow 32 = .ok (.iload_n 1, 1) := k_27 zcX6_linksNow rfl rfl
theorem dX6_linksNow_33 : decode cX6_linksNow 33 = .ok (.ireturn, 1) := k_172 zcX6_linksNow rfl rfl
theorem dX6_about_0 : decode cX6_about 0 = .ok (.iload_n 1, 1) := k_27 zcX6_about rfl rfl
theorem dX6_about_1 : decode cX6_about 1 = .ok (.tableswitch 83 0 6 #[43, 48, 54, 61, 67, 72, 78], 43) := by decide +kernel
theorem dX6_about_44 : decode cX6_about 44 = .ok (.aload_n 0, 1) := k_42 zcX6_about rfl rfl
theorem dX6_about_45 : decode cX6_about 45 = .ok (.invokevirtual 182, 3) := k_182 zcX6_about rfl rfl rfl
theorem dX6_about_48 : decode cX6_about 48 = .ok (.ireturn, 1) := k_172 zcX6_about rfl rfl
theorem dX6_about_49 : decode cX6_about 49 = .ok (.aload_n 0, 1) := k_42 zcX6_about rfl rfl
theorem dX6_about_50 : decode cX6_about 50 = .ok (.iconst 5, 1) := k_8 zcX6_about rfl rfl
theorem dX6_about_51 : decode cX6_about 51 = .ok (.invokevirtual 307, 3) := k_182 zcX6_about rfl rfl rfl
theorem dX6_about_54 : decode cX6_about 54 = .ok (.ireturn, 1) := k_172 zcX6_about rfl rfl
theorem dX6_about_55 : decode cX6_about 55 = .ok (.aload_n 0, 1) := k_42 zcX6_about rfl rfl
theorem dX6_about_56 : decode cX6_about 56 = .ok (.bipush 19, 2) := k_16 zcX6_about rfl rfl rfl
theorem dX6_about_58 : decode cX6_about 58 = .ok (.invokevirtual 307, 3) := k_182 zcX6_about rfl rfl rfl
theorem dX6_about_61 : decode cX6_about 61 = .ok (.ireturn, 1) := k_172 zcX6_about rfl rfl
theorem dX6_about_62 : decode cX6_about 62 = .ok (.aload_n 0, 1) := k_42 zcX6_about rfl rfl
theorem dX6_about_63 : decode cX6_about 63 = .ok (.iconst 0, 1) := k_3 zcX6_about rfl rfl
theorem dX6_about_64 : decode cX6_about 64 = .ok (.invokevirtual 310, 3) := k_182 zcX6_about rfl rfl rfl
theorem dX6_about_67 : decode cX6_about 67 = .ok (.ireturn, 1) := k_172 zcX6_about rfl rfl
theorem dX6_about_68 : decode cX6_about 68 = .ok (.aload_n 0, 1) := k_42 zcX6_about rfl rfl
theorem dX6_about_69 : decode cX6_about 69 = .ok (.invokevirtual 314, 3) := k_182 zcX6_about rfl rfl rfl
theorem dX6_about_72 : decode cX6_about 72 = .ok (.ireturn, 1) := k_172 zcX6_about rfl rfl
theorem dX6_about_73 : decode cX6_about 73 = .ok (.aload_n 0, 1) := k_42 zcX6_about rfl rfl
theorem dX6_about_74 : decode cX6_about 74 = .ok (.iconst 1, 1) := k_4 zcX6_about rfl rfl
theorem dX6_about_75 : decode cX6_about 75 = .ok (.invokevirtual 310, 3) := k_182 zcX6_about rfl rfl rfl
theorem dX6_about_78 : decode cX6_about 78 = .ok (.ireturn, 1) := k_172 zcX6_about rfl rfl
theorem dX6_about_79 : decode cX6_about 79 = .ok (.aload_n 0, 1) := k_42 zcX6_about rfl rfl
theorem dX6_about_80 : decode cX6_about 80 = .ok (.invokevirtual 317, 3) := k_182 zcX6_about rfl rfl rfl
theorem dX6_about_83 : decode cX6_about 83 = .ok (.ireturn, 1) := k_172 zcX6_about rfl rfl
theorem dX6_about_84 : decode cX6_about 84 = .ok (.iconst (-1), 1) := k_2 zcX6_about rfl rfl
theorem dX6_about_85 : decode cX6_about 85 = .ok (.ireturn, 1) := k_172 zcX6_about rfl rfl
theorem dJ6_bitCount_0f7a4_0 : decode cJ6_bitCount_0f7a4 0 = .ok (.iload_n 0, 1) := k_26 zcJ6_bitCount_0f7a4 rfl rfl
theorem dJ6_bitCount_0f7a4_1 : decode cJ6_bitCount_0f7a4 1 = .ok (.iload_n 0, 1) := k_26 zcJ6_bitCount_0f7a4 rfl rfl
theorem dJ6_bitCount_0f7a4_2 : decode cJ6_bitCount_0f7a4 2 = .ok (.iconst 1, 1) := k_4 zcJ6_bitCount_0f7a4 rfl rfl
theorem dJ6_bitCount_0f7a4_3 : decode cJ6_bitCount_0f7a4 3 = .ok (.iushr, 1) := k_124 zcJ6_bitCount_0f7a4 rfl rfl
theorem dJ6_bitCount_0f7a4_4 : decode cJ6_bitCount_0f7a4 4 = .ok (.ldc_w 265, 3) := k_19 zcJ6_bitCount_0f7a4 rfl rfl rfl
theorem dJ6_bitCount_0f7a4_7 : decode cJ6_bitCount_0f7a4 7 = .ok (.iand, 1) := k_126 zcJ6_bitCount_0f7a4 rfl rfl
theorem dJ6_bitCount_0f7a4_8 : decode cJ6_bitCount_0f7a4 8 = .ok (.isub, 1) := k_100 zcJ6_bitCount_0f7a4 rfl rfl
theorem dJ6_bitCount_0f7a4_9 : decode cJ6_bitCount_0f7a4 9 = .ok (.istore_n 0, 1) := k_59 zcJ6_bitCount_0f7a4 rfl rfl
theorem dJ6_bitCount_0f7a4_10 : decode cJ6_bitCount_0f7a4 10 = .ok (.iload_n 0, 1) := k_26 zcJ6_bitCount_0f7a4 rfl rfl
theorem dJ6_bitCount_0f7a4_11 : decode cJ6_bitCount_0f7a4 11 = .ok (.ldc_w 266, 3) := k_19 zcJ6_bitCount_0f7a4 rfl rfl rfl
theorem dJ6_bitCount_0f7a4_14 : decode cJ6_bitCount_0f7a4 14 = .ok (.iand, 1) := k_126 zcJ6_bitCount_0f7a4 rfl rfl
theorem dJ6_bitCount_0f7a4_15 : decode cJ6_bitCount_0f7a4 15 = .ok (.iload_n 0, 1) := k_26 zcJ6_bitCount_0f7a4 rfl rfl
theorem dJ6_bitCount_0f7a4_16 : decode cJ6_bitCount_0f7a4 16 = .ok (.iconst 2, 1) := k_5 zcJ6_bitCount_0f7a4 rfl rfl
theorem dJ6_bitCount_0f7a4_17 : decode cJ6_bitCount_0f7a4 17 = .ok (.iushr, 1) := k_124 zcJ6_bitCount_0f7a4 rfl rfl
theorem dJ6_bitCount_0f7a4_18 : decode cJ6_bitCount_0f7a4 18 = .ok (.ldc_w 266, 3) := k_19 zcJ6_bitCount_0f7a4 rfl rfl rfl
theorem dJ6_bitCount_0f7a4_21 : decode cJ6_bitCount_0f7a4 21 = .ok (.iand, 1) := k_126 zcJ6_bitCount_0f7a4 rfl rfl
theorem dJ6_bitCount_0f7a4_22 : decode cJ6_bitCount_0f7a4 22 = .ok (.iadd, 1) := k_96 zcJ6_bitCount_0f7a4 rfl rfl
theorem dJ6_bitCount_0f7a4_23 : decode cJ6_bitCount_0f7a4 23 = .ok (.istore_n 0, 1) := k_59 zcJ6_bitCount_0f7a4 rfl rfl
theorem dJ6_bitCount_0f7a4_24 : decode cJ6_bitCount_0f7a4 24 = .ok (.iload_n 0, 1) := k_26 zcJ6_bitCount_0f7a4 rfl rfl
theorem dJ6_bitCount_0f7a4_25 : decode cJ6_bitCount_0f7a4 25 = .ok (.iload_n 0, 1) := k_26 zcJ6_bitCount_0f7a4 rfl rfl
theorem dJ6_bitCount_0f7a4_26 : decode cJ6_bitCount_0f7a4 26 = .ok (.iconst 4, 1) := k_7 zcJ6_bitCount_0f7a4 rfl rfl
theorem dJ6_bitCount_0f7a4_27 : decode cJ6_bitCount_0f7a4 27 = .ok (.iushr, 1) := k_124 zcJ6_bitCount_0f7a4 rfl rfl
theorem dJ6_bitCount_0f7a4_28 : decode cJ6_bitCount_0f7a4 28 = .ok (.iadd, 1) := k_96 zcJ6_bitCount_0f7a4 rfl rfl
theorem dJ6_bitCount_0f7a4_29 : decode cJ6_bitCount_0f7a4 29 = .ok (.ldc_w 267, 3) := k_19 zcJ6_bitCount_0f7a4 rfl rfl rfl
theorem dJ6_bitCount_0f7a4_32 : decode cJ6_bitCount_0f7a4 32 = .ok (.iand, 1) := k_126 zcJ6_bitCount_0f7a4 rfl rfl
theorem dJ6_bitCount_0f7a4_33 : decode cJ6_bitCount_0f7a4 33 = .ok (.istore_n 0, 1) := k_59 zcJ6_bitCount_0f7a4 rfl rfl
theorem dJ6_bitCount_0f7a4_34 : decode cJ6_bitCount_0f7a4 34 = .ok (.iload_n 0, 1) := k_26 zcJ6_bitCount_0f7a4 rfl rfl
theorem dJ6_bitCount_0f7a4_35 : decode cJ6_bitCount_0f7a4 35 = .ok (.iload_n 0, 1) := k_26 zcJ6_bitCount_0f7a4 rfl rfl
theorem dJ6_bitCount_0f7a4_36 : decode cJ6_bitCount_0f7a4 36 = .ok (.bipush 8, 2) := k_16 zcJ6_bitCount_0f7a4 rfl rfl rfl
theorem dJ6_bitCount_0f7a4_38 : decode cJ6_bitCount_0f7a4 38 = .ok (.iushr, 1) := k_124 zcJ6_bitCount_0f7a4 rfl rfl
theorem dJ6_bitCount_0f7a4_39 : decode cJ6_bitCount_0f7a4 39 = .ok (.iadd, 1) := k_96 zcJ6_bitCount_0f7a4 rfl rfl
theorem dJ6_bitCount_0f7a4_40 : decode cJ6_bitCount_0f7a4 40 = .ok (.istore_n 0, 1) := k_59 zcJ6_bitCount_0f7a4 rfl rfl
theorem dJ6_bitCount_0f7a4_41 : decode cJ6_bitCount_0f7a4 41 = .ok (.iload_n 0, 1) := k_26 zcJ6_bitCount_0f7a4 rfl rfl
theorem dJ6_bitCount_0f7a4_42 : decode cJ6_bitCount_0f7a4 42 = .ok (.iload_n 0, 1) := k_26 zcJ6_bitCount_0f7a4 rfl rfl
theorem dJ6_bitCount_0f7a4_43 : decode cJ6_bitCount_0f7a4 43 = .ok (.bipush 16, 2) := k_16 zcJ6_bitCount_0f7a4 rfl rfl rfl
theorem dJ6_bitCount_0f7a4_45 : decode cJ6_bitCount_0f7a4 45 = .ok (.iushr, 1) := k_124 zcJ6_bitCount_0f7a4 rfl rfl
theorem dJ6_bitCount_0f7a4_46 : decode cJ6_bitCount_0f7a4 46 = .ok (.iadd, 1) := k_96 zcJ6_bitCount_0f7a4 rfl rfl
theorem dJ6_bitCount_0f7a4_47 : decode cJ6_bitCount_0f7a4 47 = .ok (.istore_n 0, 1) := k_59 zcJ6_bitCount_0f7a4 rfl rfl
theorem dJ6_bitCount_0f7a4_48 : decode cJ6_bitCount_0f7a4 48 = .ok (.iload_n 0, 1) := k_26 zcJ6_bitCount_0f7a4 rfl rfl
theorem dJ6_bitCount_0f7a4_49 : decode cJ6_bitCount_0f7a4 49 = .ok (.bipush 63, 2) := k_16 zcJ6_bitCount_0f7a4 rfl rfl rfl
theorem dJ6_bitCount_0f7a4_51 : decode cJ6_bitCount_0f7a4 51 = .ok (.iand, 1) := k_126 zcJ6_bitCount_0f7a4 rfl rfl
theorem dJ6_bitCount_0f7a4_52 : decode cJ6_bitCount_0f7a4 52 = .ok (.ireturn, 1) := k_172 zcJ6_bitCount_0f7a4 rfl rfl
theorem dJ9_floorMod_7cf53_0 : decode cJ9_floorMod_7cf53 0 = .ok (.iload_n 0, 1) := k_26 zcJ9_floorMod_7cf53 rfl rfl
theorem dJ9_floorMod_7cf53_1 : decode cJ9_floorMod_7cf53 1 = .ok (.iload_n 1, 1) := k_27 zcJ9_floorMod_7cf53 rfl rfl
theorem dJ9_floorMod_7cf53_2 : decode cJ9_floorMod_7cf53 2 = .ok (.irem, 1) := k_112 zcJ9_floorMod_7cf53 rfl rfl
theorem dJ9_floorMod_7cf53_3 : decode cJ9_floorMod_7cf53 3 = .ok (.istore_n 2, 1) := k_61 zcJ9_floorMod_7cf53 rfl rfl
theorem dJ9_floorMod_7cf53_4 : decode cJ9_floorMod_7cf53 4 = .ok (.iload_n 0, 1) := k_26 zcJ9_floorMod_7cf53 rfl rfl
theorem dJ9_floorMod_7cf53_5 : decode cJ9_floorMod_7cf53 5 = .ok (.iload_n 1, 1) := k_27 zcJ9_floorMod_7cf53 rfl rfl
theorem dJ9_floorMod_7cf53_6 : decode cJ9_floorMod_7cf53 6 = .ok (.ixor, 1) := k_130 zcJ9_floorMod_7cf53 rfl rfl
theorem dJ9_floorMod_7cf53_7 : decode cJ9_floorMod_7cf53 7 = .ok (.ifCond .ge 11, 3) := k_156 zcJ9_floorMod_7cf53 rfl rfl rfl
theorem dJ9_floorMod_7cf53_10 : decode cJ9_floorMod_7cf53 10 = .ok (.iload_n 2, 1) := k_28 zcJ9_floorMod_7cf53 rfl rfl
theorem dJ9_floorMod_7cf53_11 : decode cJ9_floorMod_7cf53 11 = .ok (.ifCond .eq 7, 3) := k_153 zcJ9_floorMod_7cf53 rfl rfl rfl
theorem dJ9_floorMod_7cf53_14 : decode cJ9_floorMod_7cf53 14 = .ok (.iload_n 2, 1) := k_28 zcJ9_floorMod_7cf53 rfl rfl
theorem dJ9_floorMod_7cf53_15 : decode cJ9_floorMod_7cf53 15 = .ok (.iload_n 1, 1) := k_27 zcJ9_floorMod_7cf53 rfl rfl
theorem dJ9_floorMod_7cf53_16 : decode cJ9_floorMod_7cf53 16 = .ok (.iadd, 1) := k_96 zcJ9_floorMod_7cf53 rfl rfl
theorem dJ9_floorMod_7cf53_17 : decode cJ9_floorMod_7cf53 17 = .ok (.ireturn, 1) := k_172 zcJ9_floorMod_7cf53 rfl rfl
theorem dJ9_floorMod_7cf53_18 : decode cJ9_floorMod_7cf53 18 = .ok (.iload_n 2, 1) := k_28 zcJ9_floorMod_7cf53 rfl rfl
theorem dJ9_floorMod_7cf53_19 : decode cJ9_floorMod_7cf53 19 = .ok (.ireturn, 1) := k_172 zcJ9_floorMod_7cf53 rfl rfl
theorem dJ9_abs_0f7a4_0 : decode cJ9_abs_0f7a4 0 = .ok (.iload_n 0, 1) := k_26 zcJ9_abs_0f7a4 rfl rfl
theorem dJ9_abs_0f7a4_1 : decode cJ9_abs_0f7a4 1 = .ok (.ifCond .ge 8, 3) := k_156 zcJ9_abs_0f7a4 rfl rfl rfl
theorem dJ9_abs_0f7a4_4 : decode cJ9_abs_0f7a4 4 = .ok (.iload_n 0, 1) := k_26 zcJ9_abs_0f7a4 rfl rfl
theorem dJ9_abs_0f7a4_5 : decode cJ9_abs_0f7a4 5 = .ok (.ineg, 1) := k_116 zcJ9_abs_0f7a4 rfl rfl
theorem dJ9_abs_0f7a4_6 : decode cJ9_abs_0f7a4 6 = .ok (.goto 4, 3) := k_167 zcJ9_abs_0f7a4 rfl rfl rfl
theorem dJ9_abs_0f7a4_9 : decode cJ9_abs_0f7a4 9 = .ok (.iload_n 0, 1) := k_26 zcJ9_abs_0f7a4 rfl rfl
theorem dJ9_abs_0f7a4_10 : decode cJ9_abs_0f7a4 10 = .ok (.ireturn, 1) := k_172 zcJ9_abs_0f7a4 rfl rfl
theorem dJ9_max_7cf53_0 : decode cJ9_max_7cf53 0 = .ok (.iload_n 0, 1) := k_26 zcJ9_max_7cf53 rfl rfl
theorem dJ9_max_7cf53_1 : decode cJ9_max_7cf53 1 = .ok (.iload_n 1, 1) := k_27 zcJ9_max_7cf53 rfl rfl
theorem dJ9_max_7cf53_2 : decode cJ9_max_7cf53 2 = .ok (.if_icmp .lt 7, 3) := k_161 zcJ9_max_7cf53 rfl rfl rfl
theorem dJ9_max_7cf53_5 : decode cJ9_max_7cf53 5 = .ok (.iload_n 0, 1) := k_26 zcJ9_max_7cf53 rfl rfl
theorem dJ9_max_7cf53_6 : decode cJ9_max_7cf53 6 = .ok (.goto 4, 3) := k_167 zcJ9_max_7cf53 rfl rfl rfl
theorem dJ9_max_7cf53_9 : decode cJ9_max_7cf53 9 = .ok (.iload_n 1, 1) := k_27 zcJ9_max_7cf53 rfl rfl
theorem dJ9_max_7cf53_10 : decode cJ9_max_7cf53 10 = .ok (.ireturn, 1) := k_172 zcJ9_max_7cf53 rfl rfl
theorem dJ9_min_7cf53_0 : decode cJ9_min_7cf53 0 = .ok (.iload_n 0, 1) := k_26 zcJ9_min_7cf53 rfl rfl
theorem dJ9_min_7cf53_1 : decode cJ9_min_7cf53 1 = .ok (.iload_n 1, 1) := k_27 zcJ9_min_7cf53 rfl rfl
theorem dJ9_min_7cf53_2 : decode cJ9_min_7cf53 2 = .ok (.if_icmp .gt 7, 3) := k_163 zcJ9_min_7cf53 rfl rfl rfl
theorem dJ9_min_7cf53_5 : decode cJ9_min_7cf53 5 = .ok (.iload_n 0, 1) := k_26 zcJ9_min_7cf53 rfl rfl
theorem dJ9_min_7cf53_6 : decode cJ9_min_7cf53 6 = .ok (.goto 4, 3) := k_167 zcJ9_min_7cf53 rfl rfl rfl
theorem dJ9_min_7cf53_9 : decode cJ9_min_7cf53 9 = .ok (.iload_n 1, 1) := k_27 zcJ9_min_7cf53 rfl rfl
theorem dJ9_min_7cf53_10 : decode cJ9_min_7cf53 10 = .ok (.ireturn, 1) := k_172 zcJ9_min_7cf53 rfl rfl
theorem dJ7_fill_53178_0 : decode cJ7_fill_53178 0 = .ok (.iconst 0, 1) := k_3 zcJ7_fill_53178 rfl rfl
theorem dJ7_fill_53178_1 : decode cJ7_fill_53178 1 = .ok (.istore_n 2, 1) := k_61 zcJ7_fill_53178 rfl rfl
theorem dJ7_fill_53178_2 : decode cJ7_fill_53178 2 = .ok (.aload_n 0, 1) := k_42 zcJ7_fill_53178 rfl rfl
theorem dJ7_fill_53178_3 : decode cJ7_fill_53178 3 = .ok (.arraylength, 1) := k_190 zcJ7_fill_53178 rfl rfl
theorem dJ7_fill_53178_4 : decode cJ7_fill_53178 4 = .ok (.istore_n 3, 1) := k_62 zcJ7_fill_53178 rfl rfl
theorem dJ7_fill_53178_5 : decode cJ7_fill_53178 5 = .ok (.iload_n 2, 1) := k_28 zcJ7_fill_53178 rfl rfl
theorem dJ7_fill_53178_6 : decode cJ7_fill_53178 6 = .ok (.iload_n 3, 1) := k_29 zcJ7_fill_53178 rfl rfl
theorem dJ7_fill_53178_7 : decode cJ7_fill_53178 7 = .ok (.if_icmp .ge 13, 3) := k_162 zcJ7_fill_53178 rfl rfl rfl
theorem dJ7_fill_53178_10 : decode cJ7_fill_53178 10 = .ok (.aload_n 0, 1) := k_42 zcJ7_fill_53178 rfl rfl
theorem dJ7_fill_53178_11 : decode cJ7_fill_53178 11 = .ok (.iload_n 2, 1) := k_28 zcJ7_fill_53178 rfl rfl
theorem dJ7_fill_53178_12 : decode cJ7_fill_53178 12 = .ok (.iload_n 1, 1) := k_27 zcJ7_fill_53178 rfl rfl
theorem dJ7_fill_53178_13 : decode cJ7_fill_53178 13 = .ok (.iastore, 1) := k_79 zcJ7_fill_53178 rfl rfl
theorem dJ7_fill_53178_14 : decode cJ7_fill_53178 14 = .ok (.iinc 2 1, 3) := k_132 zcJ7_fill_53178 rfl rfl rfl rfl
theorem dJ7_fill_53178_17 : decode cJ7_fill_53178 17 = .ok (.goto (-12), 3) := k_167 zcJ7_fill_53178 rfl rfl rfl
theorem dJ7_fill_53178_20 : decode cJ7_fill_53178 20 = .ok (.return_, 1) := k_177 zcJ7_fill_53178 rfl rfl
theorem dL_law_0 : decode cL_law 0 = .ok (.new 7, 3) := k_187 zcL_law rfl rfl rfl
theorem dL_law_3 : decode cL_law 3 = .ok (.dup, 1) := k_89 zcL_law rfl rfl
theorem dL_law_4 : decode cL_law 4 = .ok (.invokespecial 9, 3) := k_183 zcL_law rfl rfl rfl
theorem dL_law_7 : decode cL_law 7 = .ok (.astore_n 1, 1) := k_76 zcL_law rfl rfl
theorem dL_law_8 : decode cL_law 8 = .ok (.new 10, 3) := k_187 zcL_law rfl rfl rfl
theorem dL_law_11 : decode cL_law 11 = .ok (.dup, 1) := k_89 zcL_law rfl rfl
theorem dL_law_12 : decode cL_law 12 = .ok (.invokespecial 12, 3) := k_183 zcL_law rfl rfl rfl
theorem dL_law_15 : decode cL_law 15 = .ok (.astore_n 2, 1) := k_77 zcL_law rfl rfl
theorem dL_law_16 : decode cL_law 16 = .ok (.iconst 0, 1) := k_3 zcL_law rfl rfl
theorem dL_law_17 : decode cL_law 17 = .ok (.istore_n 3, 1) := k_62 zcL_law rfl rfl
theorem dL_law_18 : decode cL_law 18 = .ok (.iload_n 3, 1) := k_29 zcL_law rfl rfl
theorem dL_law_19 : decode cL_law 19 = .ok (.aload_n 0, 1) := k_42 zcL_law rfl rfl
theorem dL_law_20 : decode cL_law 20 = .ok (.arraylength, 1) := k_190 zcL_law rfl rfl
theorem dL_law_21 : decode cL_law 21 = .ok (.bipush 6, 2) := k_16 zcL_law rfl rfl rfl
theorem dL_law_23 : decode cL_law 23 = .ok (.isub, 1) := k_100 zcL_law rfl rfl
theorem dL_law_24 : decode cL_law 24 = .ok (.if_icmp .gt 2197, 3) := k_163 zcL_law rfl rfl rfl
theorem dL_law_27 : decode cL_law 27 = .ok (.aload_n 0, 1) := k_42 zcL_law rfl rfl
theorem dL_law_28 : decode cL_law 28 = .ok (.iload_n 3, 1) := k_29 zcL_law rfl rfl
theorem dL_law_29 : decode cL_law 29 = .ok (.iaload, 1) := k_46 zcL_law rfl rfl
theorem dL_law_30 : decode cL_law 30 = .ok (.bipush 63, 2) := k_16 zcL_law rfl rfl rfl
theorem dL_law_32 : decode cL_law 32 = .ok (.iand, 1) := k_126 zcL_law rfl rfl
theorem dL_law_33 : decode cL_law 33 = .ok (.tableswitch 2182 0 50 #[219, 252, 285, 308, 331, 394, 417, 460, 513, 546, 579, 612, 655, 698, 731, 784, 837, 880, 923, 966, 1009, 1052, 1095, 1128, 1161, 1194, 1237, 1280, 1313, 1346, 1379, 1412, 1465, 1498, 1541, 1574, 1607, 1640, 1693, 1716, 1739, 1792, 1815, 1848, 1901, 1954, 2007, 2050, 2103, 2136, 2159], 219) := by decide +kernel
theorem dL_law_252 : decode cL_law 252 = .ok (.aload_n 1, 1) := k_43 zcL_law rfl rfl
theorem dL_law_253 : decode cL_law 253 = .ok (.aload_n 0, 1) := k_42 zcL_law rfl rfl
theorem dL_law_254 : decode cL_law 254 = .ok (.iload_n 3, 1) := k_29 zcL_law rfl rfl
theorem dL_law_255 : decode cL_law 255 = .ok (.iconst 1, 1) := k_4 zcL_law rfl rfl
theorem dL_law_256 : decode cL_law 256 = .ok (.iadd, 1) := k_96 zcL_law rfl rfl
theorem dL_law_257 : decode cL_law 257 = .ok (.iaload, 1) := k_46 zcL_law rfl rfl
theorem dL_law_258 : decode cL_law 258 = .ok (.aload_n 0, 1) := k_42 zcL_law rfl rfl
theorem dL_law_259 : decode cL_law 259 = .ok (.iload_n 3, 1) := k_29 zcL_law rfl rfl
theorem dL_law_260 : decode cL_law 260 = .ok (.iconst 2, 1) := k_5 zcL_law rfl rfl
theorem dL_law_261 : decode cL_law 261 = .ok (.iadd, 1) := k_96 zcL_law rfl rfl
theorem dL_law_262 : decode cL_law 262 = .ok (.iaload, 1) := k_46 zcL_law rfl rfl
theorem dL_law_263 : decode cL_law 263 = .ok (.invokevirtual 13, 3) := k_182 zcL_law rfl rfl rfl
theorem dL_law_266 : decode cL_law 266 = .ok (.pop, 1) := k_87 zcL_law rfl rfl
theorem dL_law_267 : decode cL_law 267 = .ok (.aload_n 2, 1) := k_44 zcL_law rfl rfl
theorem dL_law_268 : decode cL_law 268 = .ok (.aload_n 0, 1) := k_42 zcL_law rfl rfl
theorem dL_law_269 : decode cL_law 269 = .ok (.iload_n 3, 1) := k_29 zcL_law rfl rfl
theorem dL_law_270 : decode cL_law 270 = .ok (.iconst 1, 1) := k_4 zcL_law rfl rfl
theorem dL_law_271 : decode cL_law 271 = .ok (.iadd, 1) := k_96 zcL_law rfl rfl
theorem dL_law_272 : decode cL_law 272 = .ok (.iaload, 1) := k_46 zcL_law rfl rfl
theorem dL_law_273 : decode cL_law 273 = .ok (.aload_n 0, 1) := k_42 zcL_law rfl rfl
theorem dL_law_274 : decode cL_law 274 = .ok (.iload_n 3, 1) := k_29 zcL_law rfl rfl
theorem dL_law_275 : decode cL_law 275 = .ok (.iconst 2, 1) := k_5 zcL_law rfl rfl
theorem dL_law_276 : decode cL_law 276 = .ok (.iadd, 1) := k_96 zcL_law rfl rfl
theorem dL_law_277 : decode cL_law 277 = .ok (.iaload, 1) := k_46 zcL_law rfl rfl
theorem dL_law_278 : decode cL_law 278 = .ok (.invokevirtual 17, 3) := k_182 zcL_law rfl rfl rfl
theorem dL_law_281 : decode cL_law 281 = .ok (.pop, 1) := k_87 zcL_law rfl rfl
theorem dL_law_282 : decode cL_law 282 = .ok (.goto 1933, 3) := k_167 zcL_law rfl rfl rfl
theorem dL_law_285 : decode cL_law 285 = .ok (.aload_n 1, 1) := k_43 zcL_law rfl rfl
theorem dL_law_286 : decode cL_law 286 = .ok (.aload_n 0, 1) := k_42 zcL_law rfl rfl
theorem dL_law_287 : decode cL_law 287 = .ok (.iload_n 3, 1) := k_29 zcL_law rfl rfl
theorem dL_law_288 : decode cL_law 288 = .ok (.iconst 1, 1) := k_4 zcL_law rfl rfl
theorem dL_law_289 : decode cL_law 289 = .ok (.iadd, 1) := k_96 zcL_law rfl rfl
theorem dL_law_290 : decode cL_law 290 = .ok (.iaload, 1) := k_46 zcL_law rfl rfl
theorem dL_law_291 : decode cL_law 291 = .ok (.aload_n 0, 1) := k_42 zcL_law rfl rfl
theorem dL_law_292 : decode cL_law 292 = .ok (.iload_n 3, 1) := k_29 zcL_law rfl rfl
theorem dL_law_293 : decode cL_law 293 = .ok (.iconst 2, 1) := k_5 zcL_law rfl rfl
theorem dL_law_294 : decode cL_law 294 = .ok (.iadd, 1) := k_96 zcL_law rfl rfl
theorem dL_law_295 : decode cL_law 295 = .ok (.iaload, 1) := k_46 zcL_law rfl rfl
theorem dL_law_296 : decode cL_law 296 = .ok (.invokevirtual 18, 3) := k_182 zcL_law rfl rfl rfl
theorem dL_law_299 : decode cL_law 299 = .ok (.pop, 1) := k_87 zcL_law rfl rfl
theorem dL_law_300 : decode cL_law 300 = .ok (.aload_n 2, 1) := k_44 zcL_law rfl rfl
theorem dL_law_301 : decode cL_law 301 = .ok (.aload_n 0, 1) := k_42 zcL_law rfl rfl
theorem dL_law_302 : decode cL_law 302 = .ok (.iload_n 3, 1) := k_29 zcL_law rfl rfl
theorem dL_law_303 : decode cL_law 303 = .ok (.iconst 1, 1) := k_4 zcL_law rfl rfl
theorem dL_law_304 : decode cL_law 304 = .ok (.iadd, 1) := k_96 zcL_law rfl rfl
theorem dL_law_305 : decode cL_law 305 = .ok (.iaload, 1) := k_46 zcL_law rfl rfl
theorem dL_law_306 : decode cL_law 306 = .ok (.aload_n 0, 1) := k_42 zcL_law rfl rfl
theorem dL_law_307 : decode cL_law 307 = .ok (.iload_n 3, 1) := k_29 zcL_law rfl rfl
theorem dL_law_308 : decode cL_law 308 = .ok (.iconst 2, 1) := k_5 zcL_law rfl rfl
theorem dL_law_309 : decode cL_law 309 = .ok (.iadd, 1) := k_96 zcL_law rfl rfl
theorem dL_law_310 : decode cL_law 310 = .ok (.iaload, 1) := k_46 zcL_law rfl rfl
theorem dL_law_311 : decode cL_law 311 = .ok (.invokevirtual 21, 3) := k_182 zcL_law rfl rfl rfl
theorem dL_law_314 : decode cL_law 314 = .ok (.pop, 1) := k_87 zcL_law rfl rfl
theorem dL_law_315 : decode cL_law 315 = .ok (.goto 1900, 3) := k_167 zcL_law rfl rfl rfl
theorem dL_law_318 : decode cL_law 318 = .ok (.aload_n 1, 1) := k_43 zcL_law rfl rfl
theorem dL_law_319 : decode cL_law 319 = .ok (.aload_n 0, 1) := k_42 zcL_law rfl rfl
theorem dL_law_320 : decode cL_law 320 = .ok (.iload_n 3, 1) := k_29 zcL_law rfl rfl
theorem dL_law_321 : decode cL_law 321 = .ok (.iconst 1, 1) := k_4 zcL_law rfl rfl
theorem dL_law_322 : decode cL_law 322 = .ok (.iadd, 1) := k_96 zcL_law rfl rfl
theorem dL_law_323 : decode cL_law 323 = .ok (.iaload, 1) := k_46 zcL_law rfl rfl
theorem dL_law_324 : decode cL_law 324 = .ok (.invokevirtual 22, 3) := k_182 zcL_law rfl rfl rfl
theorem dL_law_327 : decode cL_law 327 = .ok (.pop, 1) := k_87 zcL_law rfl rfl
theorem dL_law_328 : decode cL_law 328 = .ok (.aload_n 2, 1) := k_44 zcL_law rfl rfl
theorem dL_law_329 : decode cL_law 329 = .ok (.aload_n 0, 1) := k_42 zcL_law rfl rfl
theorem dL_law_330 : decode cL_law 330 = .ok (.iload_n 3, 1) := k_29 zcL_law rfl rfl
theorem dL_law_331 : decode cL_law 331 = .ok (.iconst 1, 1) := k_4 zcL_law rfl rfl
theorem dL_law_332 : decode cL_law 332 = .ok (.iadd, 1) := k_96 zcL_law rfl rfl
theorem dL_law_333 : decode cL_law 333 = .ok (.iaload, 1) := k_46 zcL_law rfl rfl
theorem dL_law_334 : decode cL_law 334 = .ok (.invokevirtual 26, 3) := k_182 zcL_law rfl rfl rfl
theorem dL_law_337 : decode cL_law 337 = .ok (.pop, 1) := k_87 zcL_law rfl rfl
theorem dL_law_338 : decode cL_law 338 = .ok (.goto 1877, 3) := k_167 zcL_law rfl rfl rfl
theorem dL_law_341 : decode cL_law 341 = .ok (.aload_n 1, 1) := k_43 zcL_law rfl rfl
theorem dL_law_342 : decode cL_law 342 = .ok (.aload_n 0, 1) := k_42 zcL_law rfl rfl
theorem dL_law_343 : decode cL_law 343 = .ok (.iload_n 3, 1) := k_29 zcL_law rfl rfl
theorem dL_law_344 : decode cL_law 344 = .ok (.iconst 1, 1) := k_4 zcL_law rfl rfl
theorem dL_law_345 : decode cL_law 345 = .ok (.iadd, 1) := k_96 zcL_law rfl rfl
theorem dL_law_346 : decode cL_law 346 = .ok (.iaload, 1) := k_46 zcL_law rfl rfl
theorem dL_law_347 : decode cL_law 347 = .ok (.invokevirtual 27, 3) := k_182 zcL_law rfl rfl rfl
theorem dL_law_350 : decode cL_law 350 = .ok (.pop, 1) := k_87 zcL_law rfl rfl
theorem dL_law_351 : decode cL_law 351 = .ok (.aload_n 2, 1) := k_44 zcL_law rfl rfl
theorem dL_law_352 : decode cL_law 352 = .ok (.aload_n 0, 1) := k_42 zcL_law rfl rfl
theorem dL_law_353 : decode cL_law 353 = .ok (.iload_n 3, 1) := k_29 zcL_law rfl rfl
theorem dL_law_354 : decode cL_law 354 = .ok (.iconst 1, 1) := k_4 zcL_law rfl rfl
theorem dL_law_355 : decode cL_law 355 = .ok (.iadd, 1) := k_96 zcL_law rfl rfl
theorem dL_law_356 : decode cL_law 356 = .ok (.iaload, 1) := k_46 zcL_law rfl rfl
theorem dL_law_357 : decode cL_law 357 = .ok (.invokevirtual 30, 3) := k_182 zcL_law rfl rfl rfl
theorem dL_law_360 : decode cL_law 360 = .ok (.pop, 1) := k_87 zcL_law rfl rfl
theorem dL_law_361 : decode cL_law 361 = .ok (.goto 1854, 3) := k_167 zcL_law rfl rfl rfl
theorem dL_law_364 : decode cL_law 364 = .ok (.aload_n 1, 1) := k_43 zcL_law rfl rfl
theorem dL_law_365 : decode cL_law 365 = .ok (.aload_n 0, 1) := k_42 zcL_law rfl rfl
theorem dL_law_366 : decode cL_law 366 = .ok (.iload_n 3, 1) := k_29 zcL_law rfl rfl
theorem dL_law_367 : decode cL_law 367 = .ok (.iconst 1, 1) := k_4 zcL_law rfl rfl
theorem dL_law_368 : decode cL_law 368 = .ok (.iadd, 1) := k_96 zcL_law rfl rfl
theorem dL_law_369 : decode cL_law 369 = .ok (.iaload, 1) := k_46 zcL_law rfl rfl
theorem dL_law_370 : decode cL_law 370 = .ok (.aload_n 0, 1) := k_42 zcL_law rfl rfl
theorem dL_law_371 : decode cL_law 371 = .ok (.iload_n 3, 1) := k_29 zcL_law rfl rfl
theorem dL_law_372 : decode cL_law 372 = .ok (.iconst 2, 1) := k_5 zcL_law rfl rfl
theorem dL_law_373 : decode cL_law 373 = .ok (.iadd, 1) := k_96 zcL_law rfl rfl
theorem dL_law_374 : decode cL_law 374 = .ok (.iaload, 1) := k_46 zcL_law rfl rfl
theorem dL_law_375 : decode cL_law 375 = .ok (.aload_n 0, 1) := k_42 zcL_law rfl rfl
theorem dL_law_376 : decode cL_law 376 = .ok (.iload_n 3, 1) := k_29 zcL_law rfl rfl
theorem dL_law_377 : decode cL_law 377 = .ok (.iconst 3, 1) := k_6 zcL_law rfl rfl
theorem dL_law_378 : decode cL_law 378 = .ok (.iadd, 1) := k_96 zcL_law rfl rfl
theorem dL_law_379 : decode cL_law 379 = .ok (.iaload, 1) := k_46 zcL_law rfl rfl
theorem dL_law_380 : decode cL_law 380 = .ok (.aload_n 0, 1) := k_42 zcL_law rfl rfl
theorem dL_law_381 : decode cL_law 381 = .ok (.iload_n 3, 1) := k_29 zcL_law rfl rfl
theorem dL_law_382 : decode cL_law 382 = .ok (.iconst 4, 1) := k_7 zcL_law rfl rfl
theorem dL_law_383 : decode cL_law 383 = .ok (.iadd, 1) := k_96 zcL_law rfl rfl
theorem dL_law_384 : decode cL_law 384 = .ok (.iaload, 1) := k_46 zcL_law rfl rfl
theorem dL_law_385 : decode cL_law 385 = .ok (.aload_n 0, 1) := k_42 zcL_law rfl rfl
theorem dL_law_386 : decode cL_law 386 = .ok (.iload_n 3, 1) := k_29 zcL_law rfl rfl
theorem dL_law_387 : decode cL_law 387 = .ok (.iconst 5, 1) := k_8 zcL_law rfl rfl
theorem dL_law_388 : decode cL_law 388 = .ok (.iadd, 1) := k_96 zcL_law rfl rfl
theorem dL_law_389 : decode cL_law 389 = .ok (.iaload, 1) := k_46 zcL_law rfl rfl
theorem dL_law_390 : decode cL_law 390 = .ok (.invokevirtual 31, 3) := k_182 zcL_law rfl rfl rfl
theorem dL_law_393 : decode cL_law 393 = .ok (.pop, 1) := k_87 zcL_law rfl rfl
theorem dL_law_394 : decode cL_law 394 = .ok (.aload_n 2, 1) := k_44 zcL_law rfl rfl
theorem dL_law_395 : decode cL_law 395 = .ok (.aload_n 0, 1) := k_42 zcL_law rfl rfl
theorem dL_law_396 : decode cL_law 396 = .ok (.iload_n 3, 1) := k_29 zcL_law rfl rfl
theorem dL_law_397 : decode cL_law 397 = .ok (.iconst 1, 1) := k_4 zcL_law rfl rfl
theorem dL_law_398 : decode cL_law 398 = .ok (.iadd, 1) := k_96 zcL_law rfl rfl
theorem dL_law_399 : decode cL_law 399 = .ok (.iaload, 1) := k_46 zcL_law rfl rfl
theorem dL_law_400 : decode cL_law 400 = .ok (.aload_n 0, 1) := k_42 zcL_law rfl rfl
theorem dL_law_401 : decode cL_law 401 = .ok (.iload_n 3, 1) := k_29 zcL_law rfl rfl
theorem dL_law_402 : decode cL_law 402 = .ok (.iconst 2, 1) := k_5 zcL_law rfl rfl
theorem dL_law_403 : decode cL_law 403 = .ok (.iadd, 1) := k_96 zcL_law rfl rfl
theorem dL_law_404 : decode cL_law 404 = .ok (.iaload, 1) := k_46 zcL_law rfl rfl
theorem dL_law_405 : decode cL_law 405 = .ok (.aload_n 0, 1) := k_42 zcL_law rfl rfl
theorem dL_law_406 : decode cL_law 406 = .ok (.iload_n 3, 1) := k_29 zcL_law rfl rfl
theorem dL_law_407 : decode cL_law 407 = .ok (.iconst 3, 1) := k_6 zcL_law rfl rfl
theorem dL_law_408 : decode cL_law 408 = .ok (.iadd, 1) := k_96 zcL_law rfl rfl
theorem dL_law_409 : decode cL_law 409 = .ok (.iaload, 1) := k_46 zcL_law rfl rfl
theorem dL_law_410 : decode cL_law 410 = .ok (.aload_n 0, 1) := k_42 zcL_law rfl rfl
theorem dL_law_411 : decode cL_law 411 = .ok (.iload_n 3, 1) := k_29 zcL_law rfl rfl
theorem dL_law_412 : decode cL_law 412 = .ok (.iconst 4, 1) := k_7 zcL_law rfl rfl
theorem dL_law_413 : decode cL_law 413 = .ok (.iadd, 1) := k_96 zcL_law rfl rfl
theorem dL_law_414 : decode cL_law 414 = .ok (.iaload, 1) := k_46 zcL_law rfl rfl
theorem dL_law_415 : decode cL_law 415 = .ok (.aload_n 0, 1) := k_42 zcL_law rfl rfl
theorem dL_law_416 : decode cL_law 416 = .ok (.iload_n 3, 1) := k_29 zcL_law rfl rfl
theorem dL_law_417 : decode cL_law 417 = .ok (.iconst 5, 1) := k_8 zcL_law rfl rfl
theorem dL_law_418 : decode cL_law 418 = .ok (.iadd, 1) := k_96 zcL_law rfl rfl
theorem dL_law_419 : decode cL_law 419 = .ok (.iaload, 1) := k_46 zcL_law rfl rfl
theorem dL_law_420 : decode cL_law 420 = .ok (.invokevirtual 35, 3) := k_182 zcL_law rfl rfl rfl
theorem dL_law_423 : decode cL_law 423 = .ok (.pop, 1) := k_87 zcL_law rfl rfl
theorem dL_law_424 : decode cL_law 424 = .ok (.goto 1791, 3) := k_167 zcL_law rfl rfl rfl
theorem dL_law_427 : decode cL_law 427 = .ok (.aload_n 1, 1) := k_43 zcL_law rfl rfl
theorem dL_law_428 : decode cL_law 428 = .ok (.aload_n 0, 1) := k_42 zcL_law rfl rfl
theorem dL_law_429 : decode cL_law 429 = .ok (.iload_n 3, 1) := k_29 zcL_law rfl rfl
theorem dL_law_430 : decode cL_law 430 = .ok (.iconst 1, 1) := k_4 zcL_law rfl rfl
theorem dL_law_431 : decode cL_law 431 = .ok (.iadd, 1) := k_96 zcL_law rfl rfl
theorem dL_law_432 : decode cL_law 432 = .ok (.iaload, 1) := k_46 zcL_law rfl rfl
theorem dL_law_433 : decode cL_law 433 = .ok (.invokevirtual 36, 3) := k_182 zcL_law rfl rfl rfl
theorem dL_law_436 : decode cL_law 436 = .ok (.pop, 1) := k_87 zcL_law rfl rfl
theorem dL_law_437 : decode cL_law 437 = .ok (.aload_n 2, 1) := k_44 zcL_law rfl rfl
theorem dL_law_438 : decode cL_law 438 = .ok (.aload_n 0, 1) := k_42 zcL_law rfl rfl
theorem dL_law_439 : decode cL_law 439 = .ok (.iload_n 3, 1) := k_29 zcL_law rfl rfl
theorem dL_law_440 : decode cL_law 440 = .ok (.iconst 1, 1) := k_4 zcL_law rfl rfl
theorem dL_law_441 : decode cL_law 441 = .ok (.iadd, 1) := k_96 zcL_law rfl rfl
theorem dL_law_442 : decode cL_law 442 = .ok (.iaload, 1) := k_46 zcL_law rfl rfl
theorem dL_law_443 : decode cL_law 443 = .ok (.invokevirtual 40, 3) := k_182 zcL_law rfl rfl rfl
theorem dL_law_446 : decode cL_law 446 = .ok (.pop, 1) := k_87 zcL_law rfl rfl
theorem dL_law_447 : decode cL_law 447 = .ok (.goto 1768, 3) := k_167 zcL_law rfl rfl rfl
theorem dL_law_450 : decode cL_law 450 = .ok (.aload_n 1, 1) := k_43 zcL_law rfl rfl
theorem dL_law_451 : decode cL_law 451 = .ok (.aload_n 0, 1) := k_42 zcL_law rfl rfl
theorem dL_law_452 : decode cL_law 452 = .ok (.iload_n 3, 1) := k_29 zcL_law rfl rfl
theorem dL_law_453 : decode cL_law 453 = .ok (.iconst 1, 1) := k_4 zcL_law rfl rfl
theorem dL_law_454 : decode cL_law 454 = .ok (.iadd, 1) := k_96 zcL_law rfl rfl
theorem dL_law_455 : decode cL_law 455 = .ok (.iaload, 1) := k_46 zcL_law rfl rfl
theorem dL_law_456 : decode cL_law 456 = .ok (.aload_n 0, 1) := k_42 zcL_law rfl rfl
theorem dL_law_457 : decode cL_law 457 = .ok (.iload_n 3, 1) := k_29 zcL_law rfl rfl
theorem dL_law_458 : decode cL_law 458 = .ok (.iconst 2, 1) := k_5 zcL_law rfl rfl
theorem dL_law_459 : decode cL_law 459 = .ok (.iadd, 1) := k_96 zcL_law rfl rfl
theorem dL_law_460 : decode cL_law 460 = .ok (.iaload, 1) := k_46 zcL_law rfl rfl
theorem dL_law_461 : decode cL_law 461 = .ok (.aload_n 0, 1) := k_42 zcL_law rfl rfl
theorem dL_law_462 : decode cL_law 462 = .ok (.iload_n 3, 1) := k_29 zcL_law rfl rfl
theorem dL_law_463 : decode cL_law 463 = .ok (.iconst 3, 1) := k_6 zcL_law rfl rfl
theorem dL_law_464 : decode cL_law 464 = .ok (.iadd, 1) := k_96 zcL_law rfl rfl
theorem dL_law_465 : decode cL_law 465 = .ok (.iaload, 1) := k_46 zcL_law rfl rfl
theorem dL_law_466 : decode cL_law 466 = .ok (.invokevirtual 41, 3) := k_182 zcL_law rfl rfl rfl
theorem dL_law_469 : decode cL_law 469 = .ok (.pop, 1) := k_87 zcL_law rfl rfl
theorem dL_law_470 : decode cL_law 470 = .ok (.aload_n 2, 1) := k_44 zcL_law rfl rfl
theorem dL_law_471 : decode cL_law 471 = .ok (.aload_n 0, 1) := k_42 zcL_law rfl rfl
theorem dL_law_472 : decode cL_law 472 = .ok (.iload_n 3, 1) := k_29 zcL_law rfl rfl
theorem dL_law_473 : decode cL_law 473 = .ok (.iconst 1, 1) := k_4 zcL_law rfl rfl
theorem dL_law_474 : decode cL_law 474 = .ok (.iadd, 1) := k_96 zcL_law rfl rfl
theorem dL_law_475 : decode cL_law 475 = .ok (.iaload, 1) := k_46 zcL_law rfl rfl
theorem dL_law_476 : decode cL_law 476 = .ok (.aload_n 0, 1) := k_42 zcL_law rfl rfl
theorem dL_law_477 : decode cL_law 477 = .ok (.iload_n 3, 1) := k_29 zcL_law rfl rfl
theorem dL_law_478 : decode cL_law 478 = .ok (.iconst 2, 1) := k_5 zcL_law rfl rfl
theorem dL_law_479 : decode cL_law 479 = .ok (.iadd, 1) := k_96 zcL_law rfl rfl
theorem dL_law_480 : decode cL_law 480 = .ok (.iaload, 1) := k_46 zcL_law rfl rfl
theorem dL_law_481 : decode cL_law 481 = .ok (.aload_n 0, 1) := k_42 zcL_law rfl rfl
theorem dL_law_482 : decode cL_law 482 = .ok (.iload_n 3, 1) := k_29 zcL_law rfl rfl
theorem dL_law_483 : decode cL_law 483 = .ok (.iconst 3, 1) := k_6 zcL_law rfl rfl
theorem dL_law_484 : decode cL_law 484 = .ok (.iadd, 1) := k_96 zcL_law rfl rfl
theorem dL_law_485 : decode cL_law 485 = .ok (.iaload, 1) := k_46 zcL_law rfl rfl
theorem dL_law_486 : decode cL_law 486 = .ok (.invokevirtual 45, 3) := k_182 zcL_law rfl rfl rfl
theorem dL_law_489 : decode cL_law 489 = .ok (.pop, 1) := k_87 zcL_law rfl rfl
theorem dL_law_490 : decode cL_law 490 = .ok (.goto 1725, 3) := k_167 zcL_law rfl rfl rfl
theorem dL_law_493 : decode cL_law 493 = .ok (.aload_n 1, 1) := k_43 zcL_law rfl rfl
theorem dL_law_494 : decode cL_law 494 = .ok (.aload_n 0, 1) := k_42 zcL_law rfl rfl
theorem dL_law_495 : decode cL_law 495 = .ok (.iload_n 3, 1) := k_29 zcL_law rfl rfl
theorem dL_law_496 : decode cL_law 496 = .ok (.iconst 1, 1) := k_4 zcL_law rfl rfl
theorem dL_law_497 : decode cL_law 497 = .ok (.iadd, 1) := k_96 zcL_law rfl rfl
theorem dL_law_498 : decode cL_law 498 = .ok (.iaload, 1) := k_46 zcL_law rfl rfl
theorem dL_law_499 : decode cL_law 499 = .ok (.aload_n 0, 1) := k_42 zcL_law rfl rfl
theorem dL_law_500 : decode cL_law 500 = .ok (.iload_n 3, 1) := k_29 zcL_law rfl rfl
theorem dL_law_501 : decode cL_law 501 = .ok (.iconst 2, 1) := k_5 zcL_law rfl rfl
theorem dL_law_502 : decode cL_law 502 = .ok (.iadd, 1) := k_96 zcL_law rfl rfl
theorem dL_law_503 : decode cL_law 503 = .ok (.iaload, 1) := k_46 zcL_law rfl rfl
theorem dL_law_504 : decode cL_law 504 = .ok (.aload_n 0, 1) := k_42 zcL_law rfl rfl
theorem dL_law_505 : decode cL_law 505 = .ok (.iload_n 3, 1) := k_29 zcL_law rfl rfl
theorem dL_law_506 : decode cL_law 506 = .ok (.iconst 3, 1) := k_6 zcL_law rfl rfl
theorem dL_law_507 : decode cL_law 507 = .ok (.iadd, 1) := k_96 zcL_law rfl rfl
theorem dL_law_508 : decode cL_law 508 = .ok (.iaload, 1) := k_46 zcL_law rfl rfl
theorem dL_law_509 : decode cL_law 509 = .ok (.aload_n 0, 1) := k_42 zcL_law rfl rfl
theorem dL_law_510 : decode cL_law 510 = .ok (.iload_n 3, 1) := k_29 zcL_law rfl rfl
theorem dL_law_511 : decode cL_law 511 = .ok (.iconst 4, 1) := k_7 zcL_law rfl rfl
theorem dL_law_512 : decode cL_law 512 = .ok (.iadd, 1) := k_96 zcL_law rfl rfl
theorem dL_law_513 : decode cL_law 513 = .ok (.iaload, 1) := k_46 zcL_law rfl rfl
theorem dL_law_514 : decode cL_law 514 = .ok (.invokevirtual 46, 3) := k_182 zcL_law rfl rfl rfl
theorem dL_law_517 : decode cL_law 517 = .ok (.pop, 1) := k_87 zcL_law rfl rfl
theorem dL_law_518 : decode cL_law 518 = .ok (.aload_n 2, 1) := k_44 zcL_law rfl rfl
theorem dL_law_519 : decode cL_law 519 = .ok (.aload_n 0, 1) := k_42 zcL_law rfl rfl
theorem dL_law_520 : decode cL_law 520 = .ok (.iload_n 3, 1) := k_29 zcL_law rfl rfl
theorem dL_law_521 : decode cL_law 521 = .ok (.iconst 1, 1) := k_4 zcL_law rfl rfl
theorem dL_law_522 : decode cL_law 522 = .ok (.iadd, 1) := k_96 zcL_law rfl rfl
theorem dL_law_523 : decode cL_law 523 = .ok (.iaload, 1) := k_46 zcL_law rfl rfl
theorem dL_law_524 : decode cL_law 524 = .ok (.aload_n 0, 1) := k_42 zcL_law rfl rfl
theorem dL_law_525 : decode cL_law 525 = .ok (.iload_n 3, 1) := k_29 zcL_law rfl rfl
theorem dL_law_526 : decode cL_law 526 = .ok (.iconst 2, 1) := k_5 zcL_law rfl rfl
theorem dL_law_527 : decode cL_law 527 = .ok (.iadd, 1) := k_96 zcL_law rfl rfl
theorem dL_law_528 : decode cL_law 528 = .ok (.iaload, 1) := k_46 zcL_law rfl rfl
theorem dL_law_529 : decode cL_law 529 = .ok (.aload_n 0, 1) := k_42 zcL_law rfl rfl
theorem dL_law_530 : decode cL_law 530 = .ok (.iload_n 3, 1) := k_29 zcL_law rfl rfl
theorem dL_law_531 : decode cL_law 531 = .ok (.iconst 3, 1) := k_6 zcL_law rfl rfl
theorem dL_law_532 : decode cL_law 532 = .ok (.iadd, 1) := k_96 zcL_law rfl rfl
theorem dL_law_533 : decode cL_law 533 = .ok (.iaload, 1) := k_46 zcL_law rfl rfl
theorem dL_law_534 : decode cL_law 534 = .ok (.aload_n 0, 1) := k_42 zcL_law rfl rfl
theorem dL_law_535 : decode cL_law 535 = .ok (.iload_n 3, 1) := k_29 zcL_law rfl rfl
theorem dL_law_536 : decode cL_law 536 = .ok (.iconst 4, 1) := k_7 zcL_law rfl rfl
theorem dL_law_537 : decode cL_law 537 = .ok (.iadd, 1) := k_96 zcL_law rfl rfl
theorem dL_law_538 : decode cL_law 538 = .ok (.iaload, 1) := k_46 zcL_law rfl rfl
theorem dL_law_539 : decode cL_law 539 = .ok (.invokevirtual 50, 3) := k_182 zcL_law rfl rfl rfl
theorem dL_law_542 : decode cL_law 542 = .ok (.pop, 1) := k_87 zcL_law rfl rfl
theorem dL_law_543 : decode cL_law 543 = .ok (.goto 1672, 3) := k_167 zcL_law rfl rfl rfl
theorem dL_law_546 : decode cL_law 546 = .ok (.aload_n 1, 1) := k_43 zcL_law rfl rfl
theorem dL_law_547 : decode cL_law 547 = .ok (.aload_n 0, 1) := k_42 zcL_law rfl rfl
theorem dL_law_548 : decode cL_law 548 = .ok (.iload_n 3, 1) := k_29 zcL_law rfl rfl
theorem dL_law_549 : decode cL_law 549 = .ok (.iconst 1, 1) := k_4 zcL_law rfl rfl
theorem dL_law_550 : decode cL_law 550 = .ok (.iadd, 1) := k_96 zcL_law rfl rfl
theorem dL_law_551 : decode cL_law 551 = .ok (.iaload, 1) := k_46 zcL_law rfl rfl
theorem dL_law_552 : decode cL_law 552 = .ok (.aload_n 0, 1) := k_42 zcL_law rfl rfl
theorem dL_law_553 : decode cL_law 553 = .ok (.iload_n 3, 1) := k_29 zcL_law rfl rfl
theorem dL_law_554 : decode cL_law 554 = .ok (.iconst 2, 1) := k_5 zcL_law rfl rfl
theorem dL_law_555 : decode cL_law 555 = .ok (.iadd, 1) := k_96 zcL_law rfl rfl
theorem dL_law_556 : decode cL_law 556 = .ok (.iaload, 1) := k_46 zcL_law rfl rfl
theorem dL_law_557 : decode cL_law 557 = .ok (.invokevirtual 51, 3) := k_182 zcL_law rfl rfl rfl
theorem dL_law_560 : decode cL_law 560 = .ok (.pop, 1) := k_87 zcL_law rfl rfl
theorem dL_law_561 : decode cL_law 561 = .ok (.aload_n 2, 1) := k_44 zcL_law rfl rfl
theorem dL_law_562 : decode cL_law 562 = .ok (.aload_n 0, 1) := k_42 zcL_law rfl rfl
theorem dL_law_563 : decode cL_law 563 = .ok (.iload_n 3, 1) := k_29 zcL_law rfl rfl
theorem dL_law_564 : decode cL_law 564 = .ok (.iconst 1, 1) := k_4 zcL_law rfl rfl
theorem dL_law_565 : decode cL_law 565 = .ok (.iadd, 1) := k_96 zcL_law rfl rfl
theorem dL_law_566 : decode cL_law 566 = .ok (.iaload, 1) := k_46 zcL_law rfl rfl
theorem dL_law_567 : decode cL_law 567 = .ok (.aload_n 0, 1) := k_42 zcL_law rfl rfl
theorem dL_law_568 : decode cL_law 568 = .ok (.iload_n 3, 1) := k_29 zcL_law rfl rfl
theorem dL_law_569 : decode cL_law 569 = .ok (.iconst 2, 1) := k_5 zcL_law rfl rfl
theorem dL_law_570 : decode cL_law 570 = .ok (.iadd, 1) := k_96 zcL_law rfl rfl
theorem dL_law_571 : decode cL_law 571 = .ok (.iaload, 1) := k_46 zcL_law rfl rfl
theorem dL_law_572 : decode cL_law 572 = .ok (.invokevirtual 55, 3) := k_182 zcL_law rfl rfl rfl
theorem dL_law_575 : decode cL_law 575 = .ok (.pop, 1) := k_87 zcL_law rfl rfl
theorem dL_law_576 : decode cL_law 576 = .ok (.goto 1639, 3) := k_167 zcL_law rfl rfl rfl
theorem dL_law_579 : decode cL_law 579 = .ok (.aload_n 1, 1) := k_43 zcL_law rfl rfl
theorem dL_law_580 : decode cL_law 580 = .ok (.aload_n 0, 1) := k_42 zcL_law rfl rfl
theorem dL_law_581 : decode cL_law 581 = .ok (.iload_n 3, 1) := k_29 zcL_law rfl rfl
theorem dL_law_582 : decode cL_law 582 = .ok (.iconst 1, 1) := k_4 zcL_law rfl rfl
theorem dL_law_583 : decode cL_law 583 = .ok (.iadd, 1) := k_96 zcL_law rfl rfl
theorem dL_law_584 : decode cL_law 584 = .ok (.iaload, 1) := k_46 zcL_law rfl rfl
theorem dL_law_585 : decode cL_law 585 = .ok (.aload_n 0, 1) := k_42 zcL_law rfl rfl
theorem dL_law_586 : decode cL_law 586 = .ok (.iload_n 3, 1) := k_29 zcL_law rfl rfl
theorem dL_law_587 : decode cL_law 587 = .ok (.iconst 2, 1) := k_5 zcL_law rfl rfl
theorem dL_law_588 : decode cL_law 588 = .ok (.iadd, 1) := k_96 zcL_law rfl rfl
theorem dL_law_589 : decode cL_law 589 = .ok (.iaload, 1) := k_46 zcL_law rfl rfl
theorem dL_law_590 : decode cL_law 590 = .ok (.invokevirtual 56, 3) := k_182 zcL_law rfl rfl rfl
theorem dL_law_593 : decode cL_law 593 = .ok (.pop, 1) := k_87 zcL_law rfl rfl
theorem dL_law_594 : decode cL_law 594 = .ok (.aload_n 2, 1) := k_44 zcL_law rfl rfl
theorem dL_law_595 : decode cL_law 595 = .ok (.aload_n 0, 1) := k_42 zcL_law rfl rfl
theorem dL_law_596 : decode cL_law 596 = .ok (.iload_n 3, 1) := k_29 zcL_law rfl rfl
theorem dL_law_597 : decode cL_law 597 = .ok (.iconst 1, 1) := k_4 zcL_law rfl rfl
theorem dL_law_598 : decode cL_law 598 = .ok (.iadd, 1) := k_96 zcL_law rfl rfl
theorem dL_law_599 : decode cL_law 599 = .ok (.iaload, 1) := k_46 zcL_law rfl rfl
theorem dL_law_600 : decode cL_law 600 = .ok (.aload_n 0, 1) := k_42 zcL_law rfl rfl
theorem dL_law_601 : decode cL_law 601 = .ok (.iload_n 3, 1) := k_29 zcL_law rfl rfl
theorem dL_law_602 : decode cL_law 602 = .ok (.iconst 2, 1) := k_5 zcL_law rfl rfl
theorem dL_law_603 : decode cL_law 603 = .ok (.iadd, 1) := k_96 zcL_law rfl rfl
theorem dL_law_604 : decode cL_law 604 = .ok (.iaload, 1) := k_46 zcL_law rfl rfl
theorem dL_law_605 : decode cL_law 605 = .ok (.invokevirtual 59, 3) := k_182 zcL_law rfl rfl rfl
theorem dL_law_608 : decode cL_law 608 = .ok (.pop, 1) := k_87 zcL_law rfl rfl
theorem dL_law_609 : decode cL_law 609 = .ok (.goto 1606, 3) := k_167 zcL_law rfl rfl rfl
theorem dL_law_612 : decode cL_law 612 = .ok (.aload_n 1, 1) := k_43 zcL_law rfl rfl
theorem dL_law_613 : decode cL_law 613 = .ok (.aload_n 0, 1) := k_42 zcL_law rfl rfl
theorem dL_law_614 : decode cL_law 614 = .ok (.iload_n 3, 1) := k_29 zcL_law rfl rfl
theorem dL_law_615 : decode cL_law 615 = .ok (.iconst 1, 1) := k_4 zcL_law rfl rfl
theorem dL_law_616 : decode cL_law 616 = .ok (.iadd, 1) := k_96 zcL_law rfl rfl
theorem dL_law_617 : decode cL_law 617 = .ok (.iaload, 1) := k_46 zcL_law rfl rfl
theorem dL_law_618 : decode cL_law 618 = .ok (.aload_n 0, 1) := k_42 zcL_law rfl rfl
theorem dL_law_619 : decode cL_law 619 = .ok (.iload_n 3, 1) := k_29 zcL_law rfl rfl
theorem dL_law_620 : decode cL_law 620 = .ok (.iconst 2, 1) := k_5 zcL_law rfl rfl
theorem dL_law_621 : decode cL_law 621 = .ok (.iadd, 1) := k_96 zcL_law rfl rfl
theorem dL_law_622 : decode cL_law 622 = .ok (.iaload, 1) := k_46 zcL_law rfl rfl
theorem dL_law_623 : decode cL_law 623 = .ok (.invokevirtual 60, 3) := k_182 zcL_law rfl rfl rfl
theorem dL_law_626 : decode cL_law 626 = .ok (.pop, 1) := k_87 zcL_law rfl rfl
theorem dL_law_627 : decode cL_law 627 = .ok (.aload_n 2, 1) := k_44 zcL_law rfl rfl
theorem dL_law_628 : decode cL_law 628 = .ok (.aload_n 0, 1) := k_42 zcL_law rfl rfl
theorem dL_law_629 : decode cL_law 629 = .ok (.iload_n 3, 1) := k_29 zcL_law rfl rfl
theorem dL_law_630 : decode cL_law 630 = .ok (.iconst 1, 1) := k_4 zcL_law rfl rfl
theorem dL_law_631 : decode cL_law 631 = .ok (.iadd, 1) := k_96 zcL_law rfl rfl
theorem dL_law_632 : decode cL_law 632 = .ok (.iaload, 1) := k_46 zcL_law rfl rfl
theorem dL_law_633 : decode cL_law 633 = .ok (.aload_n 0, 1) := k_42 zcL_law rfl rfl
theorem dL_law_634 : decode cL_law 634 = .ok (.iload_n 3, 1) := k_29 zcL_law rfl rfl
theorem dL_law_635 : decode cL_law 635 = .ok (.iconst 2, 1) := k_5 zcL_law rfl rfl
theorem dL_law_636 : decode cL_law 636 = .ok (.iadd, 1) := k_96 zcL_law rfl rfl
theorem dL_law_637 : decode cL_law 637 = .ok (.iaload, 1) := k_46 zcL_law rfl rfl
theorem dL_law_638 : decode cL_law 638 = .ok (.invokevirtual 63, 3) := k_182 zcL_law rfl rfl rfl
theorem dL_law_641 : decode cL_law 641 = .ok (.pop, 1) := k_87 zcL_law rfl rfl
theorem dL_law_642 : decode cL_law 642 = .ok (.goto 1573, 3) := k_167 zcL_law rfl rfl rfl
theorem dL_law_645 : decode cL_law 645 = .ok (.aload_n 1, 1) := k_43 zcL_law rfl rfl
theorem dL_law_646 : decode cL_law 646 = .ok (.aload_n 0, 1) := k_42 zcL_law rfl rfl
theorem dL_law_647 : decode cL_law 647 = .ok (.iload_n 3, 1) := k_29 zcL_law rfl rfl
theorem dL_law_648 : decode cL_law 648 = .ok (.iconst 1, 1) := k_4 zcL_law rfl rfl
theorem dL_law_649 : decode cL_law 649 = .ok (.iadd, 1) := k_96 zcL_law rfl rfl
theorem dL_law_650 : decode cL_law 650 = .ok (.iaload, 1) := k_46 zcL_law rfl rfl
theorem dL_law_651 : decode cL_law 651 = .ok (.aload_n 0, 1) := k_42 zcL_law rfl rfl
theorem dL_law_652 : decode cL_law 652 = .ok (.iload_n 3, 1) := k_29 zcL_law rfl rfl
theorem dL_law_653 : decode cL_law 653 = .ok (.iconst 2, 1) := k_5 zcL_law rfl rfl
theorem dL_law_654 : decode cL_law 654 = .ok (.iadd, 1) := k_96 zcL_law rfl rfl
theorem dL_law_655 : decode cL_law 655 = .ok (.iaload, 1) := k_46 zcL_law rfl rfl
theorem dL_law_656 : decode cL_law 656 = .ok (.aload_n 0, 1) := k_42 zcL_law rfl rfl
theorem dL_law_657 : decode cL_law 657 = .ok (.iload_n 3, 1) := k_29 zcL_law rfl rfl
theorem dL_law_658 : decode cL_law 658 = .ok (.iconst 3, 1) := k_6 zcL_law rfl rfl
theorem dL_law_659 : decode cL_law 659 = .ok (.iadd, 1) := k_96 zcL_law rfl rfl
theorem dL_law_660 : decode cL_law 660 = .ok (.iaload, 1) := k_46 zcL_law rfl rfl
theorem dL_law_661 : decode cL_law 661 = .ok (.invokevirtual 64, 3) := k_182 zcL_law rfl rfl rfl
theorem dL_law_664 : decode cL_law 664 = .ok (.pop, 1) := k_87 zcL_law rfl rfl
theorem dL_law_665 : decode cL_law 665 = .ok (.aload_n 2, 1) := k_44 zcL_law rfl rfl
theorem dL_law_666 : decode cL_law 666 = .ok (.aload_n 0, 1) := k_42 zcL_law rfl rfl
theorem dL_law_667 : decode cL_law 667 = .ok (.iload_n 3, 1) := k_29 zcL_law rfl rfl
theorem dL_law_668 : decode cL_law 668 = .ok (.iconst 1, 1) := k_4 zcL_law rfl rfl
theorem dL_law_669 : decode cL_law 669 = .ok (.iadd, 1) := k_96 zcL_law rfl rfl
theorem dL_law_670 : decode cL_law 670 = .ok (.iaload, 1) := k_46 zcL_law rfl rfl
theorem dL_law_671 : decode cL_law 671 = .ok (.aload_n 0, 1) := k_42 zcL_law rfl rfl
theorem dL_law_672 : decode cL_law 672 = .ok (.iload_n 3, 1) := k_29 zcL_law rfl rfl
theorem dL_law_673 : decode cL_law 673 = .ok (.iconst 2, 1) := k_5 zcL_law rfl rfl
theorem dL_law_674 : decode cL_law 674 = .ok (.iadd, 1) := k_96 zcL_law rfl rfl
theorem dL_law_675 : decode cL_law 675 = .ok (.iaload, 1) := k_46 zcL_law rfl rfl
theorem dL_law_676 : decode cL_law 676 = .ok (.aload_n 0, 1) := k_42 zcL_law rfl rfl
theorem dL_law_677 : decode cL_law 677 = .ok (.iload_n 3, 1) := k_29 zcL_law rfl rfl
theorem dL_law_678 : decode cL_law 678 = .ok (.iconst 3, 1) := k_6 zcL_law rfl rfl
theorem dL_law_679 : decode cL_law 679 = .ok (.iadd, 1) := k_96 zcL_law rfl rfl
theorem dL_law_680 : decode cL_law 680 = .ok (.iaload, 1) := k_46 zcL_law rfl rfl
theorem dL_law_681 : decode cL_law 681 = .ok (.invokevirtual 68, 3) := k_182 zcL_law rfl rfl rfl
theorem dL_law_684 : decode cL_law 684 = .ok (.pop, 1) := k_87 zcL_law rfl rfl
theorem dL_law_685 : decode cL_law 685 = .ok (.goto 1530, 3) := k_167 zcL_law rfl rfl rfl
theorem dL_law_688 : decode cL_law 688 = .ok (.aload_n 1, 1) := k_43 zcL_law rfl rfl
theorem dL_law_689 : decode cL_law 689 = .ok (.aload_n 0, 1) := k_42 zcL_law rfl rfl
theorem dL_law_690 : decode cL_law 690 = .ok (.iload_n 3, 1) := k_29 zcL_law rfl rfl
theorem dL_law_691 : decode cL_law 691 = .ok (.iconst 1, 1) := k_4 zcL_law rfl rfl
theorem dL_law_692 : decode cL_law 692 = .ok (.iadd, 1) := k_96 zcL_law rfl rfl
theorem dL_law_693 : decode cL_law 693 = .ok (.iaload, 1) := k_46 zcL_law rfl rfl
theorem dL_law_694 : decode cL_law 694 = .ok (.aload_n 0, 1) := k_42 zcL_law rfl rfl
theorem dL_law_695 : decode cL_law 695 = .ok (.iload_n 3, 1) := k_29 zcL_law rfl rfl
theorem dL_law_696 : decode cL_law 696 = .ok (.iconst 2, 1) := k_5 zcL_law rfl rfl
theorem dL_law_697 : decode cL_law 697 = .ok (.iadd, 1) := k_96 zcL_law rfl rfl
theorem dL_law_698 : decode cL_law 698 = .ok (.iaload, 1) := k_46 zcL_law rfl rfl
theorem dL_law_699 : decode cL_law 699 = .ok (.aload_n 0, 1) := k_42 zcL_law rfl rfl
theorem dL_law_700 : decode cL_law 700 = .ok (.iload_n 3, 1) := k_29 zcL_law rfl rfl
theorem dL_law_701 : decode cL_law 701 = .ok (.iconst 3, 1) := k_6 zcL_law rfl rfl
theorem dL_law_702 : decode cL_law 702 = .ok (.iadd, 1) := k_96 zcL_law rfl rfl
theorem dL_law_703 : decode cL_law 703 = .ok (.iaload, 1) := k_46 zcL_law rfl rfl
theorem dL_law_704 : decode cL_law 704 = .ok (.invokevirtual 69, 3) := k_182 zcL_law rfl rfl rfl
theorem dL_law_707 : decode cL_law 707 = .ok (.pop, 1) := k_87 zcL_law rfl rfl
theorem dL_law_708 : decode cL_law 708 = .ok (.aload_n 2, 1) := k_44 zcL_law rfl rfl
theorem dL_law_709 : decode cL_law 709 = .ok (.aload_n 0, 1) := k_42 zcL_law rfl rfl
theorem dL_law_710 : decode cL_law 710 = .ok (.iload_n 3, 1) := k_29 zcL_law rfl rfl
theorem dL_law_711 : decode cL_law 711 = .ok (.iconst 1, 1) := k_4 zcL_law rfl rfl
theorem dL_law_712 : decode cL_law 712 = .ok (.iadd, 1) := k_96 zcL_law rfl rfl
theorem dL_law_713 : decode cL_law 713 = .ok (.iaload, 1) := k_46 zcL_law rfl rfl
theorem dL_law_714 : decode cL_law 714 = .ok (.aload_n 0, 1) := k_42 zcL_law rfl rfl
theorem dL_law_715 : decode cL_law 715 = .ok (.iload_n 3, 1) := k_29 zcL_law rfl rfl
theorem dL_law_716 : decode cL_law 716 = .ok (.iconst 2, 1) := k_5 zcL_law rfl rfl
theorem dL_law_717 : decode cL_law 717 = .ok (.iadd, 1) := k_96 zcL_law rfl rfl
theorem dL_law_718 : decode cL_law 718 = .ok (.iaload, 1) := k_46 zcL_law rfl rfl
theorem dL_law_719 : decode cL_law 719 = .ok (.aload_n 0, 1) := k_42 zcL_law rfl rfl
theorem dL_law_720 : decode cL_law 720 = .ok (.iload_n 3, 1) := k_29 zcL_law rfl rfl
theorem dL_law_721 : decode cL_law 721 = .ok (.iconst 3, 1) := k_6 zcL_law rfl rfl
theorem dL_law_722 : decode cL_law 722 = .ok (.iadd, 1) := k_96 zcL_law rfl rfl
theorem dL_law_723 : decode cL_law 723 = .ok (.iaload, 1) := k_46 zcL_law rfl rfl
theorem dL_law_724 : decode cL_law 724 = .ok (.invokevirtual 72, 3) := k_182 zcL_law rfl rfl rfl
theorem dL_law_727 : decode cL_law 727 = .ok (.pop, 1) := k_87 zcL_law rfl rfl
theorem dL_law_728 : decode cL_law 728 = .ok (.goto 1487, 3) := k_167 zcL_law rfl rfl rfl
theorem dL_law_731 : decode cL_law 731 = .ok (.aload_n 1, 1) := k_43 zcL_law rfl rfl
theorem dL_law_732 : decode cL_law 732 = .ok (.aload_n 0, 1) := k_42 zcL_law rfl rfl
theorem dL_law_733 : decode cL_law 733 = .ok (.iload_n 3, 1) := k_29 zcL_law rfl rfl
theorem dL_law_734 : decode cL_law 734 = .ok (.iconst 1, 1) := k_4 zcL_law rfl rfl
theorem dL_law_735 : decode cL_law 735 = .ok (.iadd, 1) := k_96 zcL_law rfl rfl
theorem dL_law_736 : decode cL_law 736 = .ok (.iaload, 1) := k_46 zcL_law rfl rfl
theorem dL_law_737 : decode cL_law 737 = .ok (.aload_n 0, 1) := k_42 zcL_law rfl rfl
theorem dL_law_738 : decode cL_law 738 = .ok (.iload_n 3, 1) := k_29 zcL_law rfl rfl
theorem dL_law_739 : decode cL_law 739 = .ok (.iconst 2, 1) := k_5 zcL_law rfl rfl
theorem dL_law_740 : decode cL_law 740 = .ok (.iadd, 1) := k_96 zcL_law rfl rfl
theorem dL_law_741 : decode cL_law 741 = .ok (.iaload, 1) := k_46 zcL_law rfl rfl
theorem dL_law_742 : decode cL_law 742 = .ok (.invokevirtual 73, 3) := k_182 zcL_law rfl rfl rfl
theorem dL_law_745 : decode cL_law 745 = .ok (.pop, 1) := k_87 zcL_law rfl rfl
theorem dL_law_746 : decode cL_law 746 = .ok (.aload_n 2, 1) := k_44 zcL_law rfl rfl
theorem dL_law_747 : decode cL_law 747 = .ok (.aload_n 0, 1) := k_42 zcL_law rfl rfl
theorem dL_law_748 : decode cL_law 748 = .ok (.iload_n 3, 1) := k_29 zcL_law rfl rfl
theorem dL_law_749 : decode cL_law 749 = .ok (.iconst 1, 1) := k_4 zcL_law rfl rfl
theorem dL_law_750 : decode cL_law 750 = .ok (.iadd, 1) := k_96 zcL_law rfl rfl
theorem dL_law_751 : decode cL_law 751 = .ok (.iaload, 1) := k_46 zcL_law rfl rfl
theorem dL_law_752 : decode cL_law 752 = .ok (.aload_n 0, 1) := k_42 zcL_law rfl rfl
theorem dL_law_753 : decode cL_law 753 = .ok (.iload_n 3, 1) := k_29 zcL_law rfl rfl
theorem dL_law_754 : decode cL_law 754 = .ok (.iconst 2, 1) := k_5 zcL_law rfl rfl
theorem dL_law_755 : decode cL_law 755 = .ok (.iadd, 1) := k_96 zcL_law rfl rfl
theorem dL_law_756 : decode cL_law 756 = .ok (.iaload, 1) := k_46 zcL_law rfl rfl
theorem dL_law_757 : decode cL_law 757 = .ok (.invokevirtual 76, 3) := k_182 zcL_law rfl rfl rfl
theorem dL_law_760 : decode cL_law 760 = .ok (.pop, 1) := k_87 zcL_law rfl rfl
theorem dL_law_761 : decode cL_law 761 = .ok (.goto 1454, 3) := k_167 zcL_law rfl rfl rfl
theorem dL_law_764 : decode cL_law 764 = .ok (.aload_n 1, 1) := k_43 zcL_law rfl rfl
theorem dL_law_765 : decode cL_law 765 = .ok (.aload_n 0, 1) := k_42 zcL_law rfl rfl
theorem dL_law_766 : decode cL_law 766 = .ok (.iload_n 3, 1) := k_29 zcL_law rfl rfl
theorem dL_law_767 : decode cL_law 767 = .ok (.iconst 1, 1) := k_4 zcL_law rfl rfl
theorem dL_law_768 : decode cL_law 768 = .ok (.iadd, 1) := k_96 zcL_law rfl rfl
theorem dL_law_769 : decode cL_law 769 = .ok (.iaload, 1) := k_46 zcL_law rfl rfl
theorem dL_law_770 : decode cL_law 770 = .ok (.aload_n 0, 1) := k_42 zcL_law rfl rfl
theorem dL_law_771 : decode cL_law 771 = .ok (.iload_n 3, 1) := k_29 zcL_law rfl rfl
theorem dL_law_772 : decode cL_law 772 = .ok (.iconst 2, 1) := k_5 zcL_law rfl rfl
theorem dL_law_773 : decode cL_law 773 = .ok (.iadd, 1) := k_96 zcL_law rfl rfl
theorem dL_law_774 : decode cL_law 774 = .ok (.iaload, 1) := k_46 zcL_law rfl rfl
theorem dL_law_775 : decode cL_law 775 = .ok (.aload_n 0, 1) := k_42 zcL_law rfl rfl
theorem dL_law_776 : decode cL_law 776 = .ok (.iload_n 3, 1) := k_29 zcL_law rfl rfl
theorem dL_law_777 : decode cL_law 777 = .ok (.iconst 3, 1) := k_6 zcL_law rfl rfl
theorem dL_law_778 : decode cL_law 778 = .ok (.iadd, 1) := k_96 zcL_law rfl rfl
theorem dL_law_779 : decode cL_law 779 = .ok (.iaload, 1) := k_46 zcL_law rfl rfl
theorem dL_law_780 : decode cL_law 780 = .ok (.aload_n 0, 1) := k_42 zcL_law rfl rfl
theorem dL_law_781 : decode cL_law 781 = .ok (.iload_n 3, 1) := k_29 zcL_law rfl rfl
theorem dL_law_782 : decode cL_law 782 = .ok (.iconst 4, 1) := k_7 zcL_law rfl rfl
theorem dL_law_783 : decode cL_law 783 = .ok (.iadd, 1) := k_96 zcL_law rfl rfl
theorem dL_law_784 : decode cL_law 784 = .ok (.iaload, 1) := k_46 zcL_law rfl rfl
theorem dL_law_785 : decode cL_law 785 = .ok (.invokevirtual 77, 3) := k_182 zcL_law rfl rfl rfl
theorem dL_law_788 : decode cL_law 788 = .ok (.pop, 1) := k_87 zcL_law rfl rfl
theorem dL_law_789 : decode cL_law 789 = .ok (.aload_n 2, 1) := k_44 zcL_law rfl rfl
theorem dL_law_790 : decode cL_law 790 = .ok (.aload_n 0, 1) := k_42 zcL_law rfl rfl
theorem dL_law_791 : decode cL_law 791 = .ok (.iload_n 3, 1) := k_29 zcL_law rfl rfl
theorem dL_law_792 : decode cL_law 792 = .ok (.iconst 1, 1) := k_4 zcL_law rfl rfl
theorem dL_law_793 : decode cL_law 793 = .ok (.iadd, 1) := k_96 zcL_law rfl rfl
theorem dL_law_794 : decode cL_law 794 = .ok (.iaload, 1) := k_46 zcL_law rfl rfl
theorem dL_law_795 : decode cL_law 795 = .ok (.aload_n 0, 1) := k_42 zcL_law rfl rfl
theorem dL_law_796 : decode cL_law 796 = .ok (.iload_n 3, 1) := k_29 zcL_law rfl rfl
theorem dL_law_797 : decode cL_law 797 = .ok (.iconst 2, 1) := k_5 zcL_law rfl rfl
theorem dL_law_798 : decode cL_law 798 = .ok (.iadd, 1) := k_96 zcL_law rfl rfl
theorem dL_law_799 : decode cL_law 799 = .ok (.iaload, 1) := k_46 zcL_law rfl rfl
theorem dL_law_800 : decode cL_law 800 = .ok (.aload_n 0, 1) := k_42 zcL_law rfl rfl
theorem dL_law_801 : decode cL_law 801 = .ok (.iload_n 3, 1) := k_29 zcL_law rfl rfl
theorem dL_law_802 : decode cL_law 802 = .ok (.iconst 3, 1) := k_6 zcL_law rfl rfl
theorem dL_law_803 : decode cL_law 803 = .ok (.iadd, 1) := k_96 zcL_law rfl rfl
theorem dL_law_804 : decode cL_law 804 = .ok (.iaload, 1) := k_46 zcL_law rfl rfl
theorem dL_law_805 : decode cL_law 805 = .ok (.aload_n 0, 1) := k_42 zcL_law rfl rfl
theorem dL_law_806 : decode cL_law 806 = .ok (.iload_n 3, 1) := k_29 zcL_law rfl rfl
theorem dL_law_807 : decode cL_law 807 = .ok (.iconst 4, 1) := k_7 zcL_law rfl rfl
theorem dL_law_808 : decode cL_law 808 = .ok (.iadd, 1) := k_96 zcL_law rfl rfl
theorem dL_law_809 : decode cL_law 809 = .ok (.iaload, 1) := k_46 zcL_law rfl rfl
theorem dL_law_810 : decode cL_law 810 = .ok (.invokevirtual 80, 3) := k_182 zcL_law rfl rfl rfl
theorem dL_law_813 : decode cL_law 813 = .ok (.pop, 1) := k_87 zcL_law rfl rfl
theorem dL_law_814 : decode cL_law 814 = .ok (.goto 1401, 3) := k_167 zcL_law rfl rfl rfl
theorem dL_law_817 : decode cL_law 817 = .ok (.aload_n 1, 1) := k_43 zcL_law rfl rfl
theorem dL_law_818 : decode cL_law 818 = .ok (.aload_n 0, 1) := k_42 zcL_law rfl rfl
theorem dL_law_819 : decode cL_law 819 = .ok (.iload_n 3, 1) := k_29 zcL_law rfl rfl
theorem dL_law_820 : decode cL_law 820 = .ok (.iconst 1, 1) := k_4 zcL_law rfl rfl
theorem dL_law_821 : decode cL_law 821 = .ok (.iadd, 1) := k_96 zcL_law rfl rfl
theorem dL_law_822 : decode cL_law 822 = .ok (.iaload, 1) := k_46 zcL_law rfl rfl
theorem dL_law_823 : decode cL_law 823 = .ok (.aload_n 0, 1) := k_42 zcL_law rfl rfl
theorem dL_law_824 : decode cL_law 824 = .ok (.iload_n 3, 1) := k_29 zcL_law rfl rfl
theorem dL_law_825 : decode cL_law 825 = .ok (.iconst 2, 1) := k_5 zcL_law rfl rfl
theorem dL_law_826 : decode cL_law 826 = .ok (.iadd, 1) := k_96 zcL_law rfl rfl
theorem dL_law_827 : decode cL_law 827 = .ok (.iaload, 1) := k_46 zcL_law rfl rfl
theorem dL_law_828 : decode cL_law 828 = .ok (.aload_n 0, 1) := k_42 zcL_law rfl rfl
theorem dL_law_829 : decode cL_law 829 = .ok (.iload_n 3, 1) := k_29 zcL_law rfl rfl
theorem dL_law_830 : decode cL_law 830 = .ok (.iconst 3, 1) := k_6 zcL_law rfl rfl
theorem dL_law_831 : decode cL_law 831 = .ok (.iadd, 1) := k_96 zcL_law rfl rfl
theorem dL_law_832 : decode cL_law 832 = .ok (.iaload, 1) := k_46 zcL_law rfl rfl
theorem dL_law_833 : decode cL_law 833 = .ok (.aload_n 0, 1) := k_42 zcL_law rfl rfl
theorem dL_law_834 : decode cL_law 834 = .ok (.iload_n 3, 1) := k_29 zcL_law rfl rfl
theorem dL_law_835 : decode cL_law 835 = .ok (.iconst 4, 1) := k_7 zcL_law rfl rfl
theorem dL_law_836 : decode cL_law 836 = .ok (.iadd, 1) := k_96 zcL_law rfl rfl
theorem dL_law_837 : decode cL_law 837 = .ok (.iaload, 1) := k_46 zcL_law rfl rfl
theorem dL_law_838 : decode cL_law 838 = .ok (.invokevirtual 81, 3) := k_182 zcL_law rfl rfl rfl
theorem dL_law_841 : decode cL_law 841 = .ok (.pop, 1) := k_87 zcL_law rfl rfl
theorem dL_law_842 : decode cL_law 842 = .ok (.aload_n 2, 1) := k_44 zcL_law rfl rfl
theorem dL_law_843 : decode cL_law 843 = .ok (.aload_n 0, 1) := k_42 zcL_law rfl rfl
theorem dL_law_844 : decode cL_law 844 = .ok (.iload_n 3, 1) := k_29 zcL_law rfl rfl
theorem dL_law_845 : decode cL_law 845 = .ok (.iconst 1, 1) := k_4 zcL_law rfl rfl
theorem dL_law_846 : decode cL_law 846 = .ok (.iadd, 1) := k_96 zcL_law rfl rfl
theorem dL_law_847 : decode cL_law 847 = .ok (.iaload, 1) := k_46 zcL_law rfl rfl
theorem dL_law_848 : decode cL_law 848 = .ok (.aload_n 0, 1) := k_42 zcL_law rfl rfl
theorem dL_law_849 : decode cL_law 849 = .ok (.iload_n 3, 1) := k_29 zcL_law rfl rfl
theorem dL_law_850 : decode cL_law 850 = .ok (.iconst 2, 1) := k_5 zcL_law rfl rfl
theorem dL_law_851 : decode cL_law 851 = .ok (.iadd, 1) := k_96 zcL_law rfl rfl
theorem dL_law_852 : decode cL_law 852 = .ok (.iaload, 1) := k_46 zcL_law rfl rfl
theorem dL_law_853 : decode cL_law 853 = .ok (.aload_n 0, 1) := k_42 zcL_law rfl rfl
theorem dL_law_854 : decode cL_law 854 = .ok (.iload_n 3, 1) := k_29 zcL_law rfl rfl
theorem dL_law_855 : decode cL_law 855 = .ok (.iconst 3, 1) := k_6 zcL_law rfl rfl
theorem dL_law_856 : decode cL_law 856 = .ok (.iadd, 1) := k_96 zcL_law rfl rfl
theorem dL_law_857 : decode cL_law 857 = .ok (.iaload, 1) := k_46 zcL_law rfl rfl
theorem dL_law_858 : decode cL_law 858 = .ok (.aload_n 0, 1) := k_42 zcL_law rfl rfl
theorem dL_law_859 : decode cL_law 859 = .ok (.iload_n 3, 1) := k_29 zcL_law rfl rfl
theorem dL_law_860 : decode cL_law 860 = .ok (.iconst 4, 1) := k_7 zcL_law rfl rfl
theorem dL_law_861 : decode cL_law 861 = .ok (.iadd, 1) := k_96 zcL_law rfl rfl
theorem dL_law_862 : decode cL_law 862 = .ok (.iaload, 1) := k_46 zcL_law rfl rfl
theorem dL_law_863 : decode cL_law 863 = .ok (.invokevirtual 84, 3) := k_182 zcL_law rfl rfl rfl
theorem dL_law_866 : decode cL_law 866 = .ok (.pop, 1) := k_87 zcL_law rfl rfl
theorem dL_law_867 : decode cL_law 867 = .ok (.goto 1348, 3) := k_167 zcL_law rfl rfl rfl
theorem dL_law_870 : decode cL_law 870 = .ok (.aload_n 1, 1) := k_43 zcL_law rfl rfl
theorem dL_law_871 : decode cL_law 871 = .ok (.aload_n 0, 1) := k_42 zcL_law rfl rfl
theorem dL_law_872 : decode cL_law 872 = .ok (.iload_n 3, 1) := k_29 zcL_law rfl rfl
theorem dL_law_873 : decode cL_law 873 = .ok (.iconst 1, 1) := k_4 zcL_law rfl rfl
theorem dL_law_874 : decode cL_law 874 = .ok (.iadd, 1) := k_96 zcL_law rfl rfl
theorem dL_law_875 : decode cL_law 875 = .ok (.iaload, 1) := k_46 zcL_law rfl rfl
theorem dL_law_876 : decode cL_law 876 = .ok (.aload_n 0, 1) := k_42 zcL_law rfl rfl
theorem dL_law_877 : decode cL_law 877 = .ok (.iload_n 3, 1) := k_29 zcL_law rfl rfl
theorem dL_law_878 : decode cL_law 878 = .ok (.iconst 2, 1) := k_5 zcL_law rfl rfl
theorem dL_law_879 : decode cL_law 879 = .ok (.iadd, 1) := k_96 zcL_law rfl rfl
theorem dL_law_880 : decode cL_law 880 = .ok (.iaload, 1) := k_46 zcL_law rfl rfl
theorem dL_law_881 : decode cL_law 881 = .ok (.aload_n 0, 1) := k_42 zcL_law rfl rfl
theorem dL_law_882 : decode cL_law 882 = .ok (.iload_n 3, 1) := k_29 zcL_law rfl rfl
theorem dL_law_883 : decode cL_law 883 = .ok (.iconst 3, 1) := k_6 zcL_law rfl rfl
theorem dL_law_884 : decode cL_law 884 = .ok (.iadd, 1) := k_96 zcL_law rfl rfl
theorem dL_law_885 : decode cL_law 885 = .ok (.iaload, 1) := k_46 zcL_law rfl rfl
theorem dL_law_886 : decode cL_law 886 = .ok (.invokevirtual 85, 3) := k_182 zcL_law rfl rfl rfl
theorem dL_law_889 : decode cL_law 889 = .ok (.pop, 1) := k_87 zcL_law rfl rfl
theorem dL_law_890 : decode cL_law 890 = .ok (.aload_n 2, 1) := k_44 zcL_law rfl rfl
theorem dL_law_891 : decode cL_law 891 = .ok (.aload_n 0, 1) := k_42 zcL_law rfl rfl
theorem dL_law_892 : decode cL_law 892 = .ok (.iload_n 3, 1) := k_29 zcL_law rfl rfl
theorem dL_law_893 : decode cL_law 893 = .ok (.iconst 1, 1) := k_4 zcL_law rfl rfl
theorem dL_law_894 : decode cL_law 894 = .ok (.iadd, 1) := k_96 zcL_law rfl rfl
theorem dL_law_895 : decode cL_law 895 = .ok (.iaload, 1) := k_46 zcL_law rfl rfl
theorem dL_law_896 : decode cL_law 896 = .ok (.aload_n 0, 1) := k_42 zcL_law rfl rfl
theorem dL_law_897 : decode cL_law 897 = .ok (.iload_n 3, 1) := k_29 zcL_law rfl rfl
theorem dL_law_898 : decode cL_law 898 = .ok (.iconst 2, 1) := k_5 zcL_law rfl rfl
theorem dL_law_899 : decode cL_law 899 = .ok (.iadd, 1) := k_96 zcL_law rfl rfl
theorem dL_law_900 : decode cL_law 900 = .ok (.iaload, 1) := k_46 zcL_law rfl rfl
theorem dL_law_901 : decode cL_law 901 = .ok (.aload_n 0, 1) := k_42 zcL_law rfl rfl
theorem dL_law_902 : decode cL_law 902 = .ok (.iload_n 3, 1) := k_29 zcL_law rfl rfl
theorem dL_law_903 : decode cL_law 903 = .ok (.iconst 3, 1) := k_6 zcL_law rfl rfl
theorem dL_law_904 : decode cL_law 904 = .ok (.iadd, 1) := k_96 zcL_law rfl rfl
theorem dL_law_905 : decode cL_law 905 = .ok (.iaload, 1) := k_46 zcL_law rfl rfl
theorem dL_law_906 : decode cL_law 906 = .ok (.invokevirtual 88, 3) := k_182 zcL_law rfl rfl rfl
theorem dL_law_909 : decode cL_law 909 = .ok (.pop, 1) := k_87 zcL_law rfl rfl
theorem dL_law_910 : decode cL_law 910 = .ok (.goto 1305, 3) := k_167 zcL_law rfl rfl rfl
theorem dL_law_913 : decode cL_law 913 = .ok (.aload_n 1, 1) := k_43 zcL_law rfl rfl
theorem dL_law_914 : decode cL_law 914 = .ok (.aload_n 0, 1) := k_42 zcL_law rfl rfl
theorem dL_law_915 : decode cL_law 915 = .ok (.iload_n 3, 1) := k_29 zcL_law rfl rfl
theorem dL_law_916 : decode cL_law 916 = .ok (.iconst 1, 1) := k_4 zcL_law rfl rfl
theorem dL_law_917 : decode cL_law 917 = .ok (.iadd, 1) := k_96 zcL_law rfl rfl
theorem dL_law_918 : decode cL_law 918 = .ok (.iaload, 1) := k_46 zcL_law rfl rfl
theorem dL_law_919 : decode cL_law 919 = .ok (.aload_n 0, 1) := k_42 zcL_law rfl rfl
theorem dL_law_920 : decode cL_law 920 = .ok (.iload_n 3, 1) := k_29 zcL_law rfl rfl
theorem dL_law_921 : decode cL_law 921 = .ok (.iconst 2, 1) := k_5 zcL_law rfl rfl
theorem dL_law_922 : decode cL_law 922 = .ok (.iadd, 1) := k_96 zcL_law rfl rfl
theorem dL_law_923 : decode cL_law 923 = .ok (.iaload, 1) := k_46 zcL_law rfl rfl
theorem dL_law_924 : decode cL_law 924 = .ok (.aload_n 0, 1) := k_42 zcL_law rfl rfl
theorem dL_law_925 : decode cL_law 925 = .ok (.iload_n 3, 1) := k_29 zcL_law rfl rfl
theorem dL_law_926 : decode cL_law 926 = .ok (.iconst 3, 1) := k_6 zcL_law rfl rfl
theorem dL_law_927 : decode cL_law 927 = .ok (.iadd, 1) := k_96 zcL_law rfl rfl
theorem dL_law_928 : decode cL_law 928 = .ok (.iaload, 1) := k_46 zcL_law rfl rfl
theorem dL_law_929 : decode cL_law 929 = .ok (.invokevirtual 89, 3) := k_182 zcL_law rfl rfl rfl
theorem dL_law_932 : decode cL_law 932 = .ok (.pop, 1) := k_87 zcL_law rfl rfl
theorem dL_law_933 : decode cL_law 933 = .ok (.aload_n 2, 1) := k_44 zcL_law rfl rfl
theorem dL_law_934 : decode cL_law 934 = .ok (.aload_n 0, 1) := k_42 zcL_law rfl rfl
theorem dL_law_935 : decode cL_law 935 = .ok (.iload_n 3, 1) := k_29 zcL_law rfl rfl
theorem dL_law_936 : decode cL_law 936 = .ok (.iconst 1, 1) := k_4 zcL_law rfl rfl
theorem dL_law_937 : decode cL_law 937 = .ok (.iadd, 1) := k_96 zcL_law rfl rfl
theorem dL_law_938 : decode cL_law 938 = .ok (.iaload, 1) := k_46 zcL_law rfl rfl
theorem dL_law_939 : decode cL_law 939 = .ok (.aload_n 0, 1) := k_42 zcL_law rfl rfl
theorem dL_law_940 : decode cL_law 940 = .ok (.iload_n 3, 1) := k_29 zcL_law rfl rfl
theorem dL_law_941 : decode cL_law 941 = .ok (.iconst 2, 1) := k_5 zcL_law rfl rfl
theorem dL_law_942 : decode cL_law 942 = .ok (.iadd, 1) := k_96 zcL_law rfl rfl
theorem dL_law_943 : decode cL_law 943 = .ok (.iaload, 1) := k_46 zcL_law rfl rfl
theorem dL_law_944 : decode cL_law 944 = .ok (.aload_n 0, 1) := k_42 zcL_law rfl rfl
theorem dL_law_945 : decode cL_law 945 = .ok (.iload_n 3, 1) := k_29 zcL_law rfl rfl
theorem dL_law_946 : decode cL_law 946 = .ok (.iconst 3, 1) := k_6 zcL_law rfl rfl
theorem dL_law_947 : decode cL_law 947 = .ok (.iadd, 1) := k_96 zcL_law rfl rfl
theorem dL_law_948 : decode cL_law 948 = .ok (.iaload, 1) := k_46 zcL_law rfl rfl
theorem dL_law_949 : decode cL_law 949 = .ok (.invokevirtual 92, 3) := k_182 zcL_law rfl rfl rfl
theorem dL_law_952 : decode cL_law 952 = .ok (.pop, 1) := k_87 zcL_law rfl rfl
theorem dL_law_953 : decode cL_law 953 = .ok (.goto 1262, 3) := k_167 zcL_law rfl rfl rfl
theorem dL_law_956 : decode cL_law 956 = .ok (.aload_n 1, 1) := k_43 zcL_law rfl rfl
theorem dL_law_957 : decode cL_law 957 = .ok (.aload_n 0, 1) := k_42 zcL_law rfl rfl
theorem dL_law_958 : decode cL_law 958 = .ok (.iload_n 3, 1) := k_29 zcL_law rfl rfl
theorem dL_law_959 : decode cL_law 959 = .ok (.iconst 1, 1) := k_4 zcL_law rfl rfl
theorem dL_law_960 : decode cL_law 960 = .ok (.iadd, 1) := k_96 zcL_law rfl rfl
theorem dL_law_961 : decode cL_law 961 = .ok (.iaload, 1) := k_46 zcL_law rfl rfl
theorem dL_law_962 : decode cL_law 962 = .ok (.aload_n 0, 1) := k_42 zcL_law rfl rfl
theorem dL_law_963 : decode cL_law 963 = .ok (.iload_n 3, 1) := k_29 zcL_law rfl rfl
theorem dL_law_964 : decode cL_law 964 = .ok (.iconst 2, 1) := k_5 zcL_law rfl rfl
theorem dL_law_965 : decode cL_law 965 = .ok (.iadd, 1) := k_96 zcL_law rfl rfl
theorem dL_law_966 : decode cL_law 966 = .ok (.iaload, 1) := k_46 zcL_law rfl rfl
theorem dL_law_967 : decode cL_law 967 = .ok (.aload_n 0, 1) := k_42 zcL_law rfl rfl
theorem dL_law_968 : decode cL_law 968 = .ok (.iload_n 3, 1) := k_29 zcL_law rfl rfl
theorem dL_law_969 : decode cL_law 969 = .ok (.iconst 3, 1) := k_6 zcL_law rfl rfl
theorem dL_law_970 : decode cL_law 970 = .ok (.iadd, 1) := k_96 zcL_law rfl rfl
theorem dL_law_971 : decode cL_law 971 = .ok (.iaload, 1) := k_46 zcL_law rfl rfl
theorem dL_law_972 : decode cL_law 972 = .ok (.invokevirtual 93, 3) := k_182 zcL_law rfl rfl rfl
theorem dL_law_975 : decode cL_law 975 = .ok (.pop, 1) := k_87 zcL_law rfl rfl
theorem dL_law_976 : decode cL_law 976 = .ok (.aload_n 2, 1) := k_44 zcL_law rfl rfl
theorem dL_law_977 : decode cL_law 977 = .ok (.aload_n 0, 1) := k_42 zcL_law rfl rfl
theorem dL_law_978 : decode cL_law 978 = .ok (.iload_n 3, 1) := k_29 zcL_law rfl rfl
theorem dL_law_979 : decode cL_law 979 = .ok (.iconst 1, 1) := k_4 zcL_law rfl rfl
theorem dL_law_980 : decode cL_law 980 = .ok (.iadd, 1) := k_96 zcL_law rfl rfl
theorem dL_law_981 : decode cL_law 981 = .ok (.iaload, 1) := k_46 zcL_law rfl rfl
theorem dL_law_982 : decode cL_law 982 = .ok (.aload_n 0, 1) := k_42 zcL_law rfl rfl
theorem dL_law_983 : decode cL_law 983 = .ok (.iload_n 3, 1) := k_29 zcL_law rfl rfl
theorem dL_law_984 : decode cL_law 984 = .ok (.iconst 2, 1) := k_5 zcL_law rfl rfl
theorem dL_law_985 : decode cL_law 985 = .ok (.iadd, 1) := k_96 zcL_law rfl rfl
theorem dL_law_986 : decode cL_law 986 = .ok (.iaload, 1) := k_46 zcL_law rfl rfl
theorem dL_law_987 : decode cL_law 987 = .ok (.aload_n 0, 1) := k_42 zcL_law rfl rfl
theorem dL_law_988 : decode cL_law 988 = .ok (.iload_n 3, 1) := k_29 zcL_law rfl rfl
theorem dL_law_989 : decode cL_law 989 = .ok (.iconst 3, 1) := k_6 zcL_law rfl rfl
theorem dL_law_990 : decode cL_law 990 = .ok (.iadd, 1) := k_96 zcL_law rfl rfl
theorem dL_law_991 : decode cL_law 991 = .ok (.iaload, 1) := k_46 zcL_law rfl rfl
theorem dL_law_992 : decode cL_law 992 = .ok (.invokevirtual 96, 3) := k_182 zcL_law rfl rfl rfl
theorem dL_law_995 : decode cL_law 995 = .ok (.pop, 1) := k_87 zcL_law rfl rfl
theorem dL_law_996 : decode cL_law 996 = .ok (.goto 1219, 3) := k_167 zcL_law rfl rfl rfl
theorem dL_law_999 : decode cL_law 999 = .ok (.aload_n 1, 1) := k_43 zcL_law rfl rfl
theorem dL_law_1000 : decode cL_law 1000 = .ok (.aload_n 0, 1) := k_42 zcL_law rfl rfl
theorem dL_law_1001 : decode cL_law 1001 = .ok (.iload_n 3, 1) := k_29 zcL_law rfl rfl
theorem dL_law_1002 : decode cL_law 1002 = .ok (.iconst 1, 1) := k_4 zcL_law rfl rfl
theorem dL_law_1003 : decode cL_law 1003 = .ok (.iadd, 1) := k_96 zcL_law rfl rfl
theorem dL_law_1004 : decode cL_law 1004 = .ok (.iaload, 1) := k_46 zcL_law rfl rfl
theorem dL_law_1005 : decode cL_law 1005 = .ok (.aload_n 0, 1) := k_42 zcL_law rfl rfl
theorem dL_law_1006 : decode cL_law 1006 = .ok (.iload_n 3, 1) := k_29 zcL_law rfl rfl
theorem dL_law_1007 : decode cL_law 1007 = .ok (.iconst 2, 1) := k_5 zcL_law rfl rfl
theorem dL_law_1008 : decode cL_law 1008 = .ok (.iadd, 1) := k_96 zcL_law rfl rfl
theorem dL_law_1009 : decode cL_law 1009 = .ok (.iaload, 1) := k_46 zcL_law rfl rfl
theorem dL_law_1010 : decode cL_law 1010 = .ok (.aload_n 0, 1) := k_42 zcL_law rfl rfl
theorem dL_law_1011 : decode cL_law 1011 = .ok (.iload_n 3, 1) := k_29 zcL_law rfl rfl
theorem dL_law_1012 : decode cL_law 1012 = .ok (.iconst 3, 1) := k_6 zcL_law rfl rfl
theorem dL_law_1013 : decode cL_law 1013 = .ok (.iadd, 1) := k_96 zcL_law rfl rfl
theorem dL_law_1014 : decode cL_law 1014 = .ok (.iaload, 1) := k_46 zcL_law rfl rfl
theorem dL_law_1015 : decode cL_law 1015 = .ok (.invokevirtual 97, 3) := k_182 zcL_law rfl rfl rfl
theorem dL_law_1018 : decode cL_law 1018 = .ok (.pop, 1) := k_87 zcL_law rfl rfl
theorem dL_law_1019 : decode cL_law 1019 = .ok (.aload_n 2, 1) := k_44 zcL_law rfl rfl
theorem dL_law_1020 : decode cL_law 1020 = .ok (.aload_n 0, 1) := k_42 zcL_law rfl rfl
theorem dL_law_1021 : decode cL_law 1021 = .ok (.iload_n 3, 1) := k_29 zcL_law rfl rfl
theorem dL_law_1022 : decode cL_law 1022 = .ok (.iconst 1, 1) := k_4 zcL_law rfl rfl
theorem dL_law_1023 : decode cL_law 1023 = .ok (.iadd, 1) := k_96 zcL_law rfl rfl
theorem dL_law_1024 : decode cL_law 1024 = .ok (.iaload, 1) := k_46 zcL_law rfl rfl
theorem dL_law_1025 : decode cL_law 1025 = .ok (.aload_n 0, 1) := k_42 zcL_law rfl rfl
theorem dL_law_1026 : decode cL_law 1026 = .ok (.iload_n 3, 1) := k_29 zcL_law rfl rfl
theorem dL_law_1027 : decode cL_law 1027 = .ok (.iconst 2, 1) := k_5 zcL_law rfl rfl
theorem dL_law_1028 : decode cL_law 1028 = .ok (.iadd, 1) := k_96 zcL_law rfl rfl
theorem dL_law_1029 : decode cL_law 1029 = .ok (.iaload, 1) := k_46 zcL_law rfl rfl
theorem dL_law_1030 : decode cL_law 1030 = .ok (.aload_n 0, 1) := k_42 zcL_law rfl rfl
theorem dL_law_1031 : decode cL_law 1031 = .ok (.iload_n 3, 1) := k_29 zcL_law rfl rfl
theorem dL_law_1032 : decode cL_law 1032 = .ok (.iconst 3, 1) := k_6 zcL_law rfl rfl
theorem dL_law_1033 : decode cL_law 1033 = .ok (.iadd, 1) := k_96 zcL_law rfl rfl
theorem dL_law_1034 : decode cL_law 1034 = .ok (.iaload, 1) := k_46 zcL_law rfl rfl
theorem dL_law_1035 : decode cL_law 1035 = .ok (.invokevirtual 100, 3) := k_182 zcL_law rfl rfl rfl
theorem dL_law_1038 : decode cL_law 1038 = .ok (.pop, 1) := k_87 zcL_law rfl rfl
theorem dL_law_1039 : decode cL_law 1039 = .ok (.goto 1176, 3) := k_167 zcL_law rfl rfl rfl
theorem dL_law_1042 : decode cL_law 1042 = .ok (.aload_n 1, 1) := k_43 zcL_law rfl rfl
theorem dL_law_1043 : decode cL_law 1043 = .ok (.aload_n 0, 1) := k_42 zcL_law rfl rfl
theorem dL_law_1044 : decode cL_law 1044 = .ok (.iload_n 3, 1) := k_29 zcL_law rfl rfl
theorem dL_law_1045 : decode cL_law 1045 = .ok (.iconst 1, 1) := k_4 zcL_law rfl rfl
theorem dL_law_1046 : decode cL_law 1046 = .ok (.iadd, 1) := k_96 zcL_law rfl rfl
theorem dL_law_1047 : decode cL_law 1047 = .ok (.iaload, 1) := k_46 zcL_law rfl rfl
theorem dL_law_1048 : decode cL_law 1048 = .ok (.aload_n 0, 1) := k_42 zcL_law rfl rfl
theorem dL_law_1049 : decode cL_law 1049 = .ok (.iload_n 3, 1) := k_29 zcL_law rfl rfl
theorem dL_law_1050 : decode cL_law 1050 = .ok (.iconst 2, 1) := k_5 zcL_law rfl rfl
theorem dL_law_1051 : decode cL_law 1051 = .ok (.iadd, 1) := k_96 zcL_law rfl rfl
theorem dL_law_1052 : decode cL_law 1052 = .ok (.iaload, 1) := k_46 zcL_law rfl rfl
theorem dL_law_1053 : decode cL_law 1053 = .ok (.aload_n 0, 1) := k_42 zcL_law rfl rfl
theorem dL_law_1054 : decode cL_law 1054 = .ok (.iload_n 3, 1) := k_29 zcL_law rfl rfl
theorem dL_law_1055 : decode cL_law 1055 = .ok (.iconst 3, 1) := k_6 zcL_law rfl rfl
theorem dL_law_1056 : decode cL_law 1056 = .ok (.iadd, 1) := k_96 zcL_law rfl rfl
theorem dL_law_1057 : decode cL_law 1057 = .ok (.iaload, 1) := k_46 zcL_law rfl rfl
theorem dL_law_1058 : decode cL_law 1058 = .ok (.invokevirtual 101, 3) := k_182 zcL_law rfl rfl rfl
theorem dL_law_1061 : decode cL_law 1061 = .ok (.pop, 1) := k_87 zcL_law rfl rfl
theorem dL_law_1062 : decode cL_law 1062 = .ok (.aload_n 2, 1) := k_44 zcL_law rfl rfl
theorem dL_law_1063 : decode cL_law 1063 = .ok (.aload_n 0, 1) := k_42 zcL_law rfl rfl
theorem dL_law_1064 : decode cL_law 1064 = .ok (.iload_n 3, 1) := k_29 zcL_law rfl rfl
theorem dL_law_1065 : decode cL_law 1065 = .ok (.iconst 1, 1) := k_4 zcL_law rfl rfl
theorem dL_law_1066 : decode cL_law 1066 = .ok (.iadd, 1) := k_96 zcL_law rfl rfl
theorem dL_law_1067 : decode cL_law 1067 = .ok (.iaload, 1) := k_46 zcL_law rfl rfl
theorem dL_law_1068 : decode cL_law 1068 = .ok (.aload_n 0, 1) := k_42 zcL_law rfl rfl
theorem dL_law_1069 : decode cL_law 1069 = .ok (.iload_n 3, 1) := k_29 zcL_law rfl rfl
theorem dL_law_1070 : decode cL_law 1070 = .ok (.iconst 2, 1) := k_5 zcL_law rfl rfl
theorem dL_law_1071 : decode cL_law 1071 = .ok (.iadd, 1) := k_96 zcL_law rfl rfl
theorem dL_law_1072 : decode cL_law 1072 = .ok (.iaload, 1) := k_46 zcL_law rfl rfl
theorem dL_law_1073 : decode cL_law 1073 = .ok (.aload_n 0, 1) := k_42 zcL_law rfl rfl
theorem dL_law_1074 : decode cL_law 1074 = .ok (.iload_n 3, 1) := k_29 zcL_law rfl rfl
theorem dL_law_1075 : decode cL_law 1075 = .ok (.iconst 3, 1) := k_6 zcL_law rfl rfl
theorem dL_law_1076 : decode cL_law 1076 = .ok (.iadd, 1) := k_96 zcL_law rfl rfl
theorem dL_law_1077 : decode cL_law 1077 = .ok (.iaload, 1) := k_46 zcL_law rfl rfl
theorem dL_law_1078 : decode cL_law 1078 = .ok (.invokevirtual 104, 3) := k_182 zcL_law rfl rfl rfl
theorem dL_law_1081 : decode cL_law 1081 = .ok (.pop, 1) := k_87 zcL_law rfl rfl
theorem dL_law_1082 : decode cL_law 1082 = .ok (.goto 1133, 3) := k_167 zcL_law rfl rfl rfl
theorem dL_law_1085 : decode cL_law 1085 = .ok (.aload_n 1, 1) := k_43 zcL_law rfl rfl
theorem dL_law_1086 : decode cL_law 1086 = .ok (.aload_n 0, 1) := k_42 zcL_law rfl rfl
theorem dL_law_1087 : decode cL_law 1087 = .ok (.iload_n 3, 1) := k_29 zcL_law rfl rfl
theorem dL_law_1088 : decode cL_law 1088 = .ok (.iconst 1, 1) := k_4 zcL_law rfl rfl
theorem dL_law_1089 : decode cL_law 1089 = .ok (.iadd, 1) := k_96 zcL_law rfl rfl
theorem dL_law_1090 : decode cL_law 1090 = .ok (.iaload, 1) := k_46 zcL_law rfl rfl
theorem dL_law_1091 : decode cL_law 1091 = .ok (.aload_n 0, 1) := k_42 zcL_law rfl rfl
theorem dL_law_1092 : decode cL_law 1092 = .ok (.iload_n 3, 1) := k_29 zcL_law rfl rfl
theorem dL_law_1093 : decode cL_law 1093 = .ok (.iconst 2, 1) := k_5 zcL_law rfl rfl
theorem dL_law_1094 : decode cL_law 1094 = .ok (.iadd, 1) := k_96 zcL_law rfl rfl
theorem dL_law_1095 : decode cL_law 1095 = .ok (.iaload, 1) := k_46 zcL_law rfl rfl
theorem dL_law_1096 : decode cL_law 1096 = .ok (.aload_n 0, 1) := k_42 zcL_law rfl rfl
theorem dL_law_1097 : decode cL_law 1097 = .ok (.iload_n 3, 1) := k_29 zcL_law rfl rfl
theorem dL_law_1098 : decode cL_law 1098 = .ok (.iconst 3, 1) := k_6 zcL_law rfl rfl
theorem dL_law_1099 : decode cL_law 1099 = .ok (.iadd, 1) := k_96 zcL_law rfl rfl
theorem dL_law_1100 : decode cL_law 1100 = .ok (.iaload, 1) := k_46 zcL_law rfl rfl
theorem dL_law_1101 : decode cL_law 1101 = .ok (.invokevirtual 105, 3) := k_182 zcL_law rfl rfl rfl
theorem dL_law_1104 : decode cL_law 1104 = .ok (.pop, 1) := k_87 zcL_law rfl rfl
theorem dL_law_1105 : decode cL_law 1105 = .ok (.aload_n 2, 1) := k_44 zcL_law rfl rfl
theorem dL_law_1106 : decode cL_law 1106 = .ok (.aload_n 0, 1) := k_42 zcL_law rfl rfl
theorem dL_law_1107 : decode cL_law 1107 = .ok (.iload_n 3, 1) := k_29 zcL_law rfl rfl
theorem dL_law_1108 : decode cL_law 1108 = .ok (.iconst 1, 1) := k_4 zcL_law rfl rfl
theorem dL_law_1109 : decode cL_law 1109 = .ok (.iadd, 1) := k_96 zcL_law rfl rfl
theorem dL_law_1110 : decode cL_law 1110 = .ok (.iaload, 1) := k_46 zcL_law rfl rfl
theorem dL_law_1111 : decode cL_law 1111 = .ok (.aload_n 0, 1) := k_42 zcL_law rfl rfl
theorem dL_law_1112 : decode cL_law 1112 = .ok (.iload_n 3, 1) := k_29 zcL_law rfl rfl
theorem dL_law_1113 : decode cL_law 1113 = .ok (.iconst 2, 1) := k_5 zcL_law rfl rfl
theorem dL_law_1114 : decode cL_law 1114 = .ok (.iadd, 1) := k_96 zcL_law rfl rfl
theorem dL_law_1115 : decode cL_law 1115 = .ok (.iaload, 1) := k_46 zcL_law rfl rfl
theorem dL_law_1116 : decode cL_law 1116 = .ok (.aload_n 0, 1) := k_42 zcL_law rfl rfl
theorem dL_law_1117 : decode cL_law 1117 = .ok (.iload_n 3, 1) := k_29 zcL_law rfl rfl
theorem dL_law_1118 : decode cL_law 1118 = .ok (.iconst 3, 1) := k_6 zcL_law rfl rfl
theorem dL_law_1119 : decode cL_law 1119 = .ok (.iadd, 1) := k_96 zcL_law rfl rfl
theorem dL_law_1120 : decode cL_law 1120 = .ok (.iaload, 1) := k_46 zcL_law rfl rfl
theorem dL_law_1121 : decode cL_law 1121 = .ok (.invokevirtual 108, 3) := k_182 zcL_law rfl rfl rfl
theorem dL_law_1124 : decode cL_law 1124 = .ok (.pop, 1) := k_87 zcL_law rfl rfl
theorem dL_law_1125 : decode cL_law 1125 = .ok (.goto 1090, 3) := k_167 zcL_law rfl rfl rfl
theorem dL_law_1128 : decode cL_law 1128 = .ok (.aload_n 1, 1) := k_43 zcL_law rfl rfl
theorem dL_law_1129 : decode cL_law 1129 = .ok (.aload_n 0, 1) := k_42 zcL_law rfl rfl
theorem dL_law_1130 : decode cL_law 1130 = .ok (.iload_n 3, 1) := k_29 zcL_law rfl rfl
theorem dL_law_1131 : decode cL_law 1131 = .ok (.iconst 1, 1) := k_4 zcL_law rfl rfl
theorem dL_law_1132 : decode cL_law 1132 = .ok (.iadd, 1) := k_96 zcL_law rfl rfl
theorem dL_law_1133 : decode cL_law 1133 = .ok (.iaload, 1) := k_46 zcL_law rfl rfl
theorem dL_law_1134 : decode cL_law 1134 = .ok (.aload_n 0, 1) := k_42 zcL_law rfl rfl
theorem dL_law_1135 : decode cL_law 1135 = .ok (.iload_n 3, 1) := k_29 zcL_law rfl rfl
theorem dL_law_1136 : decode cL_law 1136 = .ok (.iconst 2, 1) := k_5 zcL_law rfl rfl
theorem dL_law_1137 : decode cL_law 1137 = .ok (.iadd, 1) := k_96 zcL_law rfl rfl
theorem dL_law_1138 : decode cL_law 1138 = .ok (.iaload, 1) := k_46 zcL_law rfl rfl
theorem dL_law_1139 : decode cL_law 1139 = .ok (.invokevirtual 109, 3) := k_182 zcL_law rfl rfl rfl
theorem dL_law_1142 : decode cL_law 1142 = .ok (.pop, 1) := k_87 zcL_law rfl rfl
theorem dL_law_1143 : decode cL_law 1143 = .ok (.aload_n 2, 1) := k_44 zcL_law rfl rfl
theorem dL_law_1144 : decode cL_law 1144 = .ok (.aload_n 0, 1) := k_42 zcL_law rfl rfl
theorem dL_law_1145 : decode cL_law 1145 = .ok (.iload_n 3, 1) := k_29 zcL_law rfl rfl
theorem dL_law_1146 : decode cL_law 1146 = .ok (.iconst 1, 1) := k_4 zcL_law rfl rfl
theorem dL_law_1147 : decode cL_law 1147 = .ok (.iadd, 1) := k_96 zcL_law rfl rfl
theorem dL_law_1148 : decode cL_law 1148 = .ok (.iaload, 1) := k_46 zcL_law rfl rfl
theorem dL_law_1149 : decode cL_law 1149 = .ok (.aload_n 0, 1) := k_42 zcL_law rfl rfl
theorem dL_law_1150 : decode cL_law 1150 = .ok (.iload_n 3, 1) := k_29 zcL_law rfl rfl
theorem dL_law_1151 : decode cL_law 1151 = .ok (.iconst 2, 1) := k_5 zcL_law rfl rfl
theorem dL_law_1152 : decode cL_law 1152 = .ok (.iadd, 1) := k_96 zcL_law rfl rfl
theorem dL_law_1153 : decode cL_law 1153 = .ok (.iaload, 1) := k_46 zcL_law rfl rfl
theorem dL_law_1154 : decode cL_law 1154 = .ok (.invokevirtual 112, 3) := k_182 zcL_law rfl rfl rfl
theorem dL_law_1157 : decode cL_law 1157 = .ok (.pop, 1) := k_87 zcL_law rfl rfl
theorem dL_law_1158 : decode cL_law 1158 = .ok (.goto 1057, 3) := k_167 zcL_law rfl rfl rfl
theorem dL_law_1161 : decode cL_law 1161 = .ok (.aload_n 1, 1) := k_43 zcL_law rfl rfl
theorem dL_law_1162 : decode cL_law 1162 = .ok (.aload_n 0, 1) := k_42 zcL_law rfl rfl
theorem dL_law_1163 : decode cL_law 1163 = .ok (.iload_n 3, 1) := k_29 zcL_law rfl rfl
theorem dL_law_1164 : decode cL_law 1164 = .ok (.iconst 1, 1) := k_4 zcL_law rfl rfl
theorem dL_law_1165 : decode cL_law 1165 = .ok (.iadd, 1) := k_96 zcL_law rfl rfl
theorem dL_law_1166 : decode cL_law 1166 = .ok (.iaload, 1) := k_46 zcL_law rfl rfl
theorem dL_law_1167 : decode cL_law 1167 = .ok (.aload_n 0, 1) := k_42 zcL_law rfl rfl
theorem dL_law_1168 : decode cL_law 1168 = .ok (.iload_n 3, 1) := k_29 zcL_law rfl rfl
theorem dL_law_1169 : decode cL_law 1169 = .ok (.iconst 2, 1) := k_5 zcL_law rfl rfl
theorem dL_law_1170 : decode cL_law 1170 = .ok (.iadd, 1) := k_96 zcL_law rfl rfl
theorem dL_law_1171 : decode cL_law 1171 = .ok (.iaload, 1) := k_46 zcL_law rfl rfl
theorem dL_law_1172 : decode cL_law 1172 = .ok (.invokevirtual 113, 3) := k_182 zcL_law rfl rfl rfl
theorem dL_law_1175 : decode cL_law 1175 = .ok (.pop, 1) := k_87 zcL_law rfl rfl
theorem dL_law_1176 : decode cL_law 1176 = .ok (.aload_n 2, 1) := k_44 zcL_law rfl rfl
theorem dL_law_1177 : decode cL_law 1177 = .ok (.aload_n 0, 1) := k_42 zcL_law rfl rfl
theorem dL_law_1178 : decode cL_law 1178 = .ok (.iload_n 3, 1) := k_29 zcL_law rfl rfl
theorem dL_law_1179 : decode cL_law 1179 = .ok (.iconst 1, 1) := k_4 zcL_law rfl rfl
theorem dL_law_1180 : decode cL_law 1180 = .ok (.iadd, 1) := k_96 zcL_law rfl rfl
theorem dL_law_1181 : decode cL_law 1181 = .ok (.iaload, 1) := k_46 zcL_law rfl rfl
theorem dL_law_1182 : decode cL_law 1182 = .ok (.aload_n 0, 1) := k_42 zcL_law rfl rfl
theorem dL_law_1183 : decode cL_law 1183 = .ok (.iload_n 3, 1) := k_29 zcL_law rfl rfl
theorem dL_law_1184 : decode cL_law 1184 = .ok (.iconst 2, 1) := k_5 zcL_law rfl rfl
theorem dL_law_1185 : decode cL_law 1185 = .ok (.iadd, 1) := k_96 zcL_law rfl rfl
theorem dL_law_1186 : decode cL_law 1186 = .ok (.iaload, 1) := k_46 zcL_law rfl rfl
theorem dL_law_1187 : decode cL_law 1187 = .ok (.invokevirtual 116, 3) := k_182 zcL_law rfl rfl rfl
theorem dL_law_1190 : decode cL_law 1190 = .ok (.pop, 1) := k_87 zcL_law rfl rfl
theorem dL_law_1191 : decode cL_law 1191 = .ok (.goto 1024, 3) := k_167 zcL_law rfl rfl rfl
theorem dL_law_1194 : decode cL_law 1194 = .ok (.aload_n 1, 1) := k_43 zcL_law rfl rfl
theorem dL_law_1195 : decode cL_law 1195 = .ok (.aload_n 0, 1) := k_42 zcL_law rfl rfl
theorem dL_law_1196 : decode cL_law 1196 = .ok (.iload_n 3, 1) := k_29 zcL_law rfl rfl
theorem dL_law_1197 : decode cL_law 1197 = .ok (.iconst 1, 1) := k_4 zcL_law rfl rfl
theorem dL_law_1198 : decode cL_law 1198 = .ok (.iadd, 1) := k_96 zcL_law rfl rfl
theorem dL_law_1199 : decode cL_law 1199 = .ok (.iaload, 1) := k_46 zcL_law rfl rfl
theorem dL_law_1200 : decode cL_law 1200 = .ok (.aload_n 0, 1) := k_42 zcL_law rfl rfl
theorem dL_law_1201 : decode cL_law 1201 = .ok (.iload_n 3, 1) := k_29 zcL_law rfl rfl
theorem dL_law_1202 : decode cL_law 1202 = .ok (.iconst 2, 1) := k_5 zcL_law rfl rfl
theorem dL_law_1203 : decode cL_law 1203 = .ok (.iadd, 1) := k_96 zcL_law rfl rfl
theorem dL_law_1204 : decode cL_law 1204 = .ok (.iaload, 1) := k_46 zcL_law rfl rfl
theorem dL_law_1205 : decode cL_law 1205 = .ok (.invokevirtual 117, 3) := k_182 zcL_law rfl rfl rfl
theorem dL_law_1208 : decode cL_law 1208 = .ok (.pop, 1) := k_87 zcL_law rfl rfl
theorem dL_law_1209 : decode cL_law 1209 = .ok (.aload_n 2, 1) := k_44 zcL_law rfl rfl
theorem dL_law_1210 : decode cL_law 1210 = .ok (.aload_n 0, 1) := k_42 zcL_law rfl rfl
theorem dL_law_1211 : decode cL_law 1211 = .ok (.iload_n 3, 1) := k_29 zcL_law rfl rfl
theorem dL_law_1212 : decode cL_law 1212 = .ok (.iconst 1, 1) := k_4 zcL_law rfl rfl
theorem dL_law_1213 : decode cL_law 1213 = .ok (.iadd, 1) := k_96 zcL_law rfl rfl
theorem dL_law_1214 : decode cL_law 1214 = .ok (.iaload, 1) := k_46 zcL_law rfl rfl
theorem dL_law_1215 : decode cL_law 1215 = .ok (.aload_n 0, 1) := k_42 zcL_law rfl rfl
theorem dL_law_1216 : decode cL_law 1216 = .ok (.iload_n 3, 1) := k_29 zcL_law rfl rfl
theorem dL_law_1217 : decode cL_law 1217 = .ok (.iconst 2, 1) := k_5 zcL_law rfl rfl
theorem dL_law_1218 : decode cL_law 1218 = .ok (.iadd, 1) := k_96 zcL_law rfl rfl
theorem dL_law_1219 : decode cL_law 1219 = .ok (.iaload, 1) := k_46 zcL_law rfl rfl
theorem dL_law_1220 : decode cL_law 1220 = .ok (.invokevirtual 120, 3) := k_182 zcL_law rfl rfl rfl
theorem dL_law_1223 : decode cL_law 1223 = .ok (.pop, 1) := k_87 zcL_law rfl rfl
theorem dL_law_1224 : decode cL_law 1224 = .ok (.goto 991, 3) := k_167 zcL_law rfl rfl rfl
theorem dL_law_1227 : decode cL_law 1227 = .ok (.aload_n 1, 1) := k_43 zcL_law rfl rfl
theorem dL_law_1228 : decode cL_law 1228 = .ok (.aload_n 0, 1) := k_42 zcL_law rfl rfl
theorem dL_law_1229 : decode cL_law 1229 = .ok (.iload_n 3, 1) := k_29 zcL_law rfl rfl
theorem dL_law_1230 : decode cL_law 1230 = .ok (.iconst 1, 1) := k_4 zcL_law rfl rfl
theorem dL_law_1231 : decode cL_law 1231 = .ok (.iadd, 1) := k_96 zcL_law rfl rfl
theorem dL_law_1232 : decode cL_law 1232 = .ok (.iaload, 1) := k_46 zcL_law rfl rfl
theorem dL_law_1233 : decode cL_law 1233 = .ok (.aload_n 0, 1) := k_42 zcL_law rfl rfl
theorem dL_law_1234 : decode cL_law 1234 = .ok (.iload_n 3, 1) := k_29 zcL_law rfl rfl
theorem dL_law_1235 : decode cL_law 1235 = .ok (.iconst 2, 1) := k_5 zcL_law rfl rfl
theorem dL_law_1236 : decode cL_law 1236 = .ok (.iadd, 1) := k_96 zcL_law rfl rfl
theorem dL_law_1237 : decode cL_law 1237 = .ok (.iaload, 1) := k_46 zcL_law rfl rfl
theorem dL_law_1238 : decode cL_law 1238 = .ok (.aload_n 0, 1) := k_42 zcL_law rfl rfl
theorem dL_law_1239 : decode cL_law 1239 = .ok (.iload_n 3, 1) := k_29 zcL_law rfl rfl
theorem dL_law_1240 : decode cL_law 1240 = .ok (.iconst 3, 1) := k_6 zcL_law rfl rfl
theorem dL_law_1241 : decode cL_law 1241 = .ok (.iadd, 1) := k_96 zcL_law rfl rfl
theorem dL_law_1242 : decode cL_law 1242 = .ok (.iaload, 1) := k_46 zcL_law rfl rfl
theorem dL_law_1243 : decode cL_law 1243 = .ok (.invokevirtual 121, 3) := k_182 zcL_law rfl rfl rfl
theorem dL_law_1246 : decode cL_law 1246 = .ok (.pop, 1) := k_87 zcL_law rfl rfl
theorem dL_law_1247 : decode cL_law 1247 = .ok (.aload_n 2, 1) := k_44 zcL_law rfl rfl
theorem dL_law_1248 : decode cL_law 1248 = .ok (.aload_n 0, 1) := k_42 zcL_law rfl rfl
theorem dL_law_1249 : decode cL_law 1249 = .ok (.iload_n 3, 1) := k_29 zcL_law rfl rfl
theorem dL_law_1250 : decode cL_law 1250 = .ok (.iconst 1, 1) := k_4 zcL_law rfl rfl
theorem dL_law_1251 : decode cL_law 1251 = .ok (.iadd, 1) := k_96 zcL_law rfl rfl
theorem dL_law_1252 : decode cL_law 1252 = .ok (.iaload, 1) := k_46 zcL_law rfl rfl
theorem dL_law_1253 : decode cL_law 1253 = .ok (.aload_n 0, 1) := k_42 zcL_law rfl rfl
theorem dL_law_1254 : decode cL_law 1254 = .ok (.iload_n 3, 1) := k_29 zcL_law rfl rfl
theorem dL_law_1255 : decode cL_law 1255 = .ok (.iconst 2, 1) := k_5 zcL_law rfl rfl
theorem dL_law_1256 : decode cL_law 1256 = .ok (.iadd, 1) := k_96 zcL_law rfl rfl
theorem dL_law_1257 : decode cL_law 1257 = .ok (.iaload, 1) := k_46 zcL_law rfl rfl
theorem dL_law_1258 : decode cL_law 1258 = .ok (.aload_n 0, 1) := k_42 zcL_law rfl rfl
theorem dL_law_1259 : decode cL_law 1259 = .ok (.iload_n 3, 1) := k_29 zcL_law rfl rfl
theorem dL_law_1260 : decode cL_law 1260 = .ok (.iconst 3, 1) := k_6 zcL_law rfl rfl
theorem dL_law_1261 : decode cL_law 1261 = .ok (.iadd, 1) := k_96 zcL_law rfl rfl
theorem dL_law_1262 : decode cL_law 1262 = .ok (.iaload, 1) := k_46 zcL_law rfl rfl
theorem dL_law_1263 : decode cL_law 1263 = .ok (.invokevirtual 124, 3) := k_182 zcL_law rfl rfl rfl
theorem dL_law_1266 : decode cL_law 1266 = .ok (.pop, 1) := k_87 zcL_law rfl rfl
theorem dL_law_1267 : decode cL_law 1267 = .ok (.goto 948, 3) := k_167 zcL_law rfl rfl rfl
theorem dL_law_1270 : decode cL_law 1270 = .ok (.aload_n 1, 1) := k_43 zcL_law rfl rfl
theorem dL_law_1271 : decode cL_law 1271 = .ok (.aload_n 0, 1) := k_42 zcL_law rfl rfl
theorem dL_law_1272 : decode cL_law 1272 = .ok (.iload_n 3, 1) := k_29 zcL_law rfl rfl
theorem dL_law_1273 : decode cL_law 1273 = .ok (.iconst 1, 1) := k_4 zcL_law rfl rfl
theorem dL_law_1274 : decode cL_law 1274 = .ok (.iadd, 1) := k_96 zcL_law rfl rfl
theorem dL_law_1275 : decode cL_law 1275 = .ok (.iaload, 1) := k_46 zcL_law rfl rfl
theorem dL_law_1276 : decode cL_law 1276 = .ok (.aload_n 0, 1) := k_42 zcL_law rfl rfl
theorem dL_law_1277 : decode cL_law 1277 = .ok (.iload_n 3, 1) := k_29 zcL_law rfl rfl
theorem dL_law_1278 : decode cL_law 1278 = .ok (.iconst 2, 1) := k_5 zcL_law rfl rfl
theorem dL_law_1279 : decode cL_law 1279 = .ok (.iadd, 1) := k_96 zcL_law rfl rfl
theorem dL_law_1280 : decode cL_law 1280 = .ok (.iaload, 1) := k_46 zcL_law rfl rfl
theorem dL_law_1281 : decode cL_law 1281 = .ok (.aload_n 0, 1) := k_42 zcL_law rfl rfl
theorem dL_law_1282 : decode cL_law 1282 = .ok (.iload_n 3, 1) := k_29 zcL_law rfl rfl
theorem dL_law_1283 : decode cL_law 1283 = .ok (.iconst 3, 1) := k_6 zcL_law rfl rfl
theorem dL_law_1284 : decode cL_law 1284 = .ok (.iadd, 1) := k_96 zcL_law rfl rfl
theorem dL_law_1285 : decode cL_law 1285 = .ok (.iaload, 1) := k_46 zcL_law rfl rfl
theorem dL_law_1286 : decode cL_law 1286 = .ok (.invokevirtual 125, 3) := k_182 zcL_law rfl rfl rfl
theorem dL_law_1289 : decode cL_law 1289 = .ok (.pop, 1) := k_87 zcL_law rfl rfl
theorem dL_law_1290 : decode cL_law 1290 = .ok (.aload_n 2, 1) := k_44 zcL_law rfl rfl
theorem dL_law_1291 : decode cL_law 1291 = .ok (.aload_n 0, 1) := k_42 zcL_law rfl rfl
theorem dL_law_1292 : decode cL_law 1292 = .ok (.iload_n 3, 1) := k_29 zcL_law rfl rfl
theorem dL_law_1293 : decode cL_law 1293 = .ok (.iconst 1, 1) := k_4 zcL_law rfl rfl
theorem dL_law_1294 : decode cL_law 1294 = .ok (.iadd, 1) := k_96 zcL_law rfl rfl
theorem dL_law_1295 : decode cL_law 1295 = .ok (.iaload, 1) := k_46 zcL_law rfl rfl
theorem dL_law_1296 : decode cL_law 1296 = .ok (.aload_n 0, 1) := k_42 zcL_law rfl rfl
theorem dL_law_1297 : decode cL_law 1297 = .ok (.iload_n 3, 1) := k_29 zcL_law rfl rfl
theorem dL_law_1298 : decode cL_law 1298 = .ok (.iconst 2, 1) := k_5 zcL_law rfl rfl
theorem dL_law_1299 : decode cL_law 1299 = .ok (.iadd, 1) := k_96 zcL_law rfl rfl
theorem dL_law_1300 : decode cL_law 1300 = .ok (.iaload, 1) := k_46 zcL_law rfl rfl
theorem dL_law_1301 : decode cL_law 1301 = .ok (.aload_n 0, 1) := k_42 zcL_law rfl rfl
theorem dL_law_1302 : decode cL_law 1302 = .ok (.iload_n 3, 1) := k_29 zcL_law rfl rfl
theorem dL_law_1303 : decode cL_law 1303 = .ok (.iconst 3, 1) := k_6 zcL_law rfl rfl
theorem dL_law_1304 : decode cL_law 1304 = .ok (.iadd, 1) := k_96 zcL_law rfl rfl
theorem dL_law_1305 : decode cL_law 1305 = .ok (.iaload, 1) := k_46 zcL_law rfl rfl
theorem dL_law_1306 : decode cL_law 1306 = .ok (.invokevirtual 128, 3) := k_182 zcL_law rfl rfl rfl
theorem dL_law_1309 : decode cL_law 1309 = .ok (.pop, 1) := k_87 zcL_law rfl rfl
theorem dL_law_1310 : decode cL_law 1310 = .ok (.goto 905, 3) := k_167 zcL_law rfl rfl rfl
theorem dL_law_1313 : decode cL_law 1313 = .ok (.aload_n 1, 1) := k_43 zcL_law rfl rfl
theorem dL_law_1314 : decode cL_law 1314 = .ok (.aload_n 0, 1) := k_42 zcL_law rfl rfl
theorem dL_law_1315 : decode cL_law 1315 = .ok (.iload_n 3, 1) := k_29 zcL_law rfl rfl
theorem dL_law_1316 : decode cL_law 1316 = .ok (.iconst 1, 1) := k_4 zcL_law rfl rfl
theorem dL_law_1317 : decode cL_law 1317 = .ok (.iadd, 1) := k_96 zcL_law rfl rfl
theorem dL_law_1318 : decode cL_law 1318 = .ok (.iaload, 1) := k_46 zcL_law rfl rfl
theorem dL_law_1319 : decode cL_law 1319 = .ok (.aload_n 0, 1) := k_42 zcL_law rfl rfl
theorem dL_law_1320 : decode cL_law 1320 = .ok (.iload_n 3, 1) := k_29 zcL_law rfl rfl
theorem dL_law_1321 : decode cL_law 1321 = .ok (.iconst 2, 1) := k_5 zcL_law rfl rfl
theorem dL_law_1322 : decode cL_law 1322 = .ok (.iadd, 1) := k_96 zcL_law rfl rfl
theorem dL_law_1323 : decode cL_law 1323 = .ok (.iaload, 1) := k_46 zcL_law rfl rfl
theorem dL_law_1324 : decode cL_law 1324 = .ok (.invokevirtual 129, 3) := k_182 zcL_law rfl rfl rfl
theorem dL_law_1327 : decode cL_law 1327 = .ok (.pop, 1) := k_87 zcL_law rfl rfl
theorem dL_law_1328 : decode cL_law 1328 = .ok (.aload_n 2, 1) := k_44 zcL_law rfl rfl
theorem dL_law_1329 : decode cL_law 1329 = .ok (.aload_n 0, 1) := k_42 zcL_law rfl rfl
theorem dL_law_1330 : decode cL_law 1330 = .ok (.iload_n 3, 1) := k_29 zcL_law rfl rfl
theorem dL_law_1331 : decode cL_law 1331 = .ok (.iconst 1, 1) := k_4 zcL_law rfl rfl
theorem dL_law_1332 : decode cL_law 1332 = .ok (.iadd, 1) := k_96 zcL_law rfl rfl
theorem dL_law_1333 : decode cL_law 1333 = .ok (.iaload, 1) := k_46 zcL_law rfl rfl
theorem dL_law_1334 : decode cL_law 1334 = .ok (.aload_n 0, 1) := k_42 zcL_law rfl rfl
theorem dL_law_1335 : decode cL_law 1335 = .ok (.iload_n 3, 1) := k_29 zcL_law rfl rfl
theorem dL_law_1336 : decode cL_law 1336 = .ok (.iconst 2, 1) := k_5 zcL_law rfl rfl
theorem dL_law_1337 : decode cL_law 1337 = .ok (.iadd, 1) := k_96 zcL_law rfl rfl
theorem dL_law_1338 : decode cL_law 1338 = .ok (.iaload, 1) := k_46 zcL_law rfl rfl
theorem dL_law_1339 : decode cL_law 1339 = .ok (.invokevirtual 132, 3) := k_182 zcL_law rfl rfl rfl
theorem dL_law_1342 : decode cL_law 1342 = .ok (.pop, 1) := k_87 zcL_law rfl rfl
theorem dL_law_1343 : decode cL_law 1343 = .ok (.goto 872, 3) := k_167 zcL_law rfl rfl rfl
theorem dL_law_1346 : decode cL_law 1346 = .ok (.aload_n 1, 1) := k_43 zcL_law rfl rfl
theorem dL_law_1347 : decode cL_law 1347 = .ok (.aload_n 0, 1) := k_42 zcL_law rfl rfl
theorem dL_law_1348 : decode cL_law 1348 = .ok (.iload_n 3, 1) := k_29 zcL_law rfl rfl
theorem dL_law_1349 : decode cL_law 1349 = .ok (.iconst 1, 1) := k_4 zcL_law rfl rfl
theorem dL_law_1350 : decode cL_law 1350 = .ok (.iadd, 1) := k_96 zcL_law rfl rfl
theorem dL_law_1351 : decode cL_law 1351 = .ok (.iaload, 1) := k_46 zcL_law rfl rfl
theorem dL_law_1352 : decode cL_law 1352 = .ok (.aload_n 0, 1) := k_42 zcL_law rfl rfl
theorem dL_law_1353 : decode cL_law 1353 = .ok (.iload_n 3, 1) := k_29 zcL_law rfl rfl
theorem dL_law_1354 : decode cL_law 1354 = .ok (.iconst 2, 1) := k_5 zcL_law rfl rfl
theorem dL_law_1355 : decode cL_law 1355 = .ok (.iadd, 1) := k_96 zcL_law rfl rfl
theorem dL_law_1356 : decode cL_law 1356 = .ok (.iaload, 1) := k_46 zcL_law rfl rfl
theorem dL_law_1357 : decode cL_law 1357 = .ok (.invokevirtual 133, 3) := k_182 zcL_law rfl rfl rfl
theorem dL_law_1360 : decode cL_law 1360 = .ok (.pop, 1) := k_87 zcL_law rfl rfl
theorem dL_law_1361 : decode cL_law 1361 = .ok (.aload_n 2, 1) := k_44 zcL_law rfl rfl
theorem dL_law_1362 : decode cL_law 1362 = .ok (.aload_n 0, 1) := k_42 zcL_law rfl rfl
theorem dL_law_1363 : decode cL_law 1363 = .ok (.iload_n 3, 1) := k_29 zcL_law rfl rfl
theorem dL_law_1364 : decode cL_law 1364 = .ok (.iconst 1, 1) := k_4 zcL_law rfl rfl
theorem dL_law_1365 : decode cL_law 1365 = .ok (.iadd, 1) := k_96 zcL_law rfl rfl
theorem dL_law_1366 : decode cL_law 1366 = .ok (.iaload, 1) := k_46 zcL_law rfl rfl
theorem dL_law_1367 : decode cL_law 1367 = .ok (.aload_n 0, 1) := k_42 zcL_law rfl rfl
theorem dL_law_1368 : decode cL_law 1368 = .ok (.iload_n 3, 1) := k_29 zcL_law rfl rfl
theorem dL_law_1369 : decode cL_law 1369 = .ok (.iconst 2, 1) := k_5 zcL_law rfl rfl
theorem dL_law_1370 : decode cL_law 1370 = .ok (.iadd, 1) := k_96 zcL_law rfl rfl
theorem dL_law_1371 : decode cL_law 1371 = .ok (.iaload, 1) := k_46 zcL_law rfl rfl
theorem dL_law_1372 : decode cL_law 1372 = .ok (.invokevirtual 136, 3) := k_182 zcL_law rfl rfl rfl
theorem dL_law_1375 : decode cL_law 1375 = .ok (.pop, 1) := k_87 zcL_law rfl rfl
theorem dL_law_1376 : decode cL_law 1376 = .ok (.goto 839, 3) := k_167 zcL_law rfl rfl rfl
theorem dL_law_1379 : decode cL_law 1379 = .ok (.aload_n 1, 1) := k_43 zcL_law rfl rfl
theorem dL_law_1380 : decode cL_law 1380 = .ok (.aload_n 0, 1) := k_42 zcL_law rfl rfl
theorem dL_law_1381 : decode cL_law 1381 = .ok (.iload_n 3, 1) := k_29 zcL_law rfl rfl
theorem dL_law_1382 : decode cL_law 1382 = .ok (.iconst 1, 1) := k_4 zcL_law rfl rfl
theorem dL_law_1383 : decode cL_law 1383 = .ok (.iadd, 1) := k_96 zcL_law rfl rfl
theorem dL_law_1384 : decode cL_law 1384 = .ok (.iaload, 1) := k_46 zcL_law rfl rfl
theorem dL_law_1385 : decode cL_law 1385 = .ok (.aload_n 0, 1) := k_42 zcL_law rfl rfl
theorem dL_law_1386 : decode cL_law 1386 = .ok (.iload_n 3, 1) := k_29 zcL_law rfl rfl
theorem dL_law_1387 : decode cL_law 1387 = .ok (.iconst 2, 1) := k_5 zcL_law rfl rfl
theorem dL_law_1388 : decode cL_law 1388 = .ok (.iadd, 1) := k_96 zcL_law rfl rfl
theorem dL_law_1389 : decode cL_law 1389 = .ok (.iaload, 1) := k_46 zcL_law rfl rfl
theorem dL_law_1390 : decode cL_law 1390 = .ok (.invokevirtual 137, 3) := k_182 zcL_law rfl rfl rfl
theorem dL_law_1393 : decode cL_law 1393 = .ok (.pop, 1) := k_87 zcL_law rfl rfl
theorem dL_law_1394 : decode cL_law 1394 = .ok (.aload_n 2, 1) := k_44 zcL_law rfl rfl
theorem dL_law_1395 : decode cL_law 1395 = .ok (.aload_n 0, 1) := k_42 zcL_law rfl rfl
theorem dL_law_1396 : decode cL_law 1396 = .ok (.iload_n 3, 1) := k_29 zcL_law rfl rfl
theorem dL_law_1397 : decode cL_law 1397 = .ok (.iconst 1, 1) := k_4 zcL_law rfl rfl
theorem dL_law_1398 : decode cL_law 1398 = .ok (.iadd, 1) := k_96 zcL_law rfl rfl
theorem dL_law_1399 : decode cL_law 1399 = .ok (.iaload, 1) := k_46 zcL_law rfl rfl
theorem dL_law_1400 : decode cL_law 1400 = .ok (.aload_n 0, 1) := k_42 zcL_law rfl rfl
theorem dL_law_1401 : decode cL_law 1401 = .ok (.iload_n 3, 1) := k_29 zcL_law rfl rfl
theorem dL_law_1402 : decode cL_law 1402 = .ok (.iconst 2, 1) := k_5 zcL_law rfl rfl
theorem dL_law_1403 : decode cL_law 1403 = .ok (.iadd, 1) := k_96 zcL_law rfl rfl
theorem dL_law_1404 : decode cL_law 1404 = .ok (.iaload, 1) := k_46 zcL_law rfl rfl
theorem dL_law_1405 : decode cL_law 1405 = .ok (.invokevirtual 140, 3) := k_182 zcL_law rfl rfl rfl
theorem dL_law_1408 : decode cL_law 1408 = .ok (.pop, 1) := k_87 zcL_law rfl rfl
theorem dL_law_1409 : decode cL_law 1409 = .ok (.goto 806, 3) := k_167 zcL_law rfl rfl rfl
theorem dL_law_1412 : decode cL_law 1412 = .ok (.aload_n 1, 1) := k_43 zcL_law rfl rfl
theorem dL_law_1413 : decode cL_law 1413 = .ok (.aload_n 0, 1) := k_42 zcL_law rfl rfl
theorem dL_law_1414 : decode cL_law 1414 = .ok (.iload_n 3, 1) := k_29 zcL_law rfl rfl
theorem dL_law_1415 : decode cL_law 1415 = .ok (.iconst 1, 1) := k_4 zcL_law rfl rfl
theorem dL_law_1416 : decode cL_law 1416 = .ok (.iadd, 1) := k_96 zcL_law rfl rfl
theorem dL_law_1417 : decode cL_law 1417 = .ok (.iaload, 1) := k_46 zcL_law rfl rfl
theorem dL_law_1418 : decode cL_law 1418 = .ok (.aload_n 0, 1) := k_42 zcL_law rfl rfl
theorem dL_law_1419 : decode cL_law 1419 = .ok (.iload_n 3, 1) := k_29 zcL_law rfl rfl
theorem dL_law_1420 : decode cL_law 1420 = .ok (.iconst 2, 1) := k_5 zcL_law rfl rfl
theorem dL_law_1421 : decode cL_law 1421 = .ok (.iadd, 1) := k_96 zcL_law rfl rfl
theorem dL_law_1422 : decode cL_law 1422 = .ok (.iaload, 1) := k_46 zcL_law rfl rfl
theorem dL_law_1423 : decode cL_law 1423 = .ok (.invokevirtual 141, 3) := k_182 zcL_law rfl rfl rfl
theorem dL_law_1426 : decode cL_law 1426 = .ok (.pop, 1) := k_87 zcL_law rfl rfl
theorem dL_law_1427 : decode cL_law 1427 = .ok (.aload_n 2, 1) := k_44 zcL_law rfl rfl
theorem dL_law_1428 : decode cL_law 1428 = .ok (.aload_n 0, 1) := k_42 zcL_law rfl rfl
theorem dL_law_1429 : decode cL_law 1429 = .ok (.iload_n 3, 1) := k_29 zcL_law rfl rfl
theorem dL_law_1430 : decode cL_law 1430 = .ok (.iconst 1, 1) := k_4 zcL_law rfl rfl
theorem dL_law_1431 : decode cL_law 1431 = .ok (.iadd, 1) := k_96 zcL_law rfl rfl
theorem dL_law_1432 : decode cL_law 1432 = .ok (.iaload, 1) := k_46 zcL_law rfl rfl
theorem dL_law_1433 : decode cL_law 1433 = .ok (.aload_n 0, 1) := k_42 zcL_law rfl rfl
theorem dL_law_1434 : decode cL_law 1434 = .ok (.iload_n 3, 1) := k_29 zcL_law rfl rfl
theorem dL_law_1435 : decode cL_law 1435 = .ok (.iconst 2, 1) := k_5 zcL_law rfl rfl
theorem dL_law_1436 : decode cL_law 1436 = .ok (.iadd, 1) := k_96 zcL_law rfl rfl
theorem dL_law_1437 : decode cL_law 1437 = .ok (.iaload, 1) := k_46 zcL_law rfl rfl
theorem dL_law_1438 : decode cL_law 1438 = .ok (.invokevirtual 144, 3) := k_182 zcL_law rfl rfl rfl
theorem dL_law_1441 : decode cL_law 1441 = .ok (.pop, 1) := k_87 zcL_law rfl rfl
theorem dL_law_1442 : decode cL_law 1442 = .ok (.goto 773, 3) := k_167 zcL_law rfl rfl rfl
theorem dL_law_1445 : decode cL_law 1445 = .ok (.aload_n 1, 1) := k_43 zcL_law rfl rfl
theorem dL_law_1446 : decode cL_law 1446 = .ok (.aload_n 0, 1) := k_42 zcL_law rfl rfl
theorem dL_law_1447 : decode cL_law 1447 = .ok (.iload_n 3, 1) := k_29 zcL_law rfl rfl
theorem dL_law_1448 : decode cL_law 1448 = .ok (.iconst 1, 1) := k_4 zcL_law rfl rfl
theorem dL_law_1449 : decode cL_law 1449 = .ok (.iadd, 1) := k_96 zcL_law rfl rfl
theorem dL_law_1450 : decode cL_law 1450 = .ok (.iaload, 1) := k_46 zcL_law rfl rfl
theorem dL_law_1451 : decode cL_law 1451 = .ok (.aload_n 0, 1) := k_42 zcL_law rfl rfl
theorem dL_law_1452 : decode cL_law 1452 = .ok (.iload_n 3, 1) := k_29 zcL_law rfl rfl
theorem dL_law_1453 : decode cL_law 1453 = .ok (.iconst 2, 1) := k_5 zcL_law rfl rfl
theorem dL_law_1454 : decode cL_law 1454 = .ok (.iadd, 1) := k_96 zcL_law rfl rfl
theorem dL_law_1455 : decode cL_law 1455 = .ok (.iaload, 1) := k_46 zcL_law rfl rfl
theorem dL_law_1456 : decode cL_law 1456 = .ok (.aload_n 0, 1) := k_42 zcL_law rfl rfl
theorem dL_law_1457 : decode cL_law 1457 = .ok (.iload_n 3, 1) := k_29 zcL_law rfl rfl
theorem dL_law_1458 : decode cL_law 1458 = .ok (.iconst 3, 1) := k_6 zcL_law rfl rfl
theorem dL_law_1459 : decode cL_law 1459 = .ok (.iadd, 1) := k_96 zcL_law rfl rfl
theorem dL_law_1460 : decode cL_law 1460 = .ok (.iaload, 1) := k_46 zcL_law rfl rfl
theorem dL_law_1461 : decode cL_law 1461 = .ok (.aload_n 0, 1) := k_42 zcL_law rfl rfl
theorem dL_law_1462 : decode cL_law 1462 = .ok (.iload_n 3, 1) := k_29 zcL_law rfl rfl
theorem dL_law_1463 : decode cL_law 1463 = .ok (.iconst 4, 1) := k_7 zcL_law rfl rfl
theorem dL_law_1464 : decode cL_law 1464 = .ok (.iadd, 1) := k_96 zcL_law rfl rfl
theorem dL_law_1465 : decode cL_law 1465 = .ok (.iaload, 1) := k_46 zcL_law rfl rfl
theorem dL_law_1466 : decode cL_law 1466 = .ok (.invokevirtual 145, 3) := k_182 zcL_law rfl rfl rfl
theorem dL_law_1469 : decode cL_law 1469 = .ok (.pop, 1) := k_87 zcL_law rfl rfl
theorem dL_law_1470 : decode cL_law 1470 = .ok (.aload_n 2, 1) := k_44 zcL_law rfl rfl
theorem dL_law_1471 : decode cL_law 1471 = .ok (.aload_n 0, 1) := k_42 zcL_law rfl rfl
theorem dL_law_1472 : decode cL_law 1472 = .ok (.iload_n 3, 1) := k_29 zcL_law rfl rfl
theorem dL_law_1473 : decode cL_law 1473 = .ok (.iconst 1, 1) := k_4 zcL_law rfl rfl
theorem dL_law_1474 : decode cL_law 1474 = .ok (.iadd, 1) := k_96 zcL_law rfl rfl
theorem dL_law_1475 : decode cL_law 1475 = .ok (.iaload, 1) := k_46 zcL_law rfl rfl
theorem dL_law_1476 : decode cL_law 1476 = .ok (.aload_n 0, 1) := k_42 zcL_law rfl rfl
theorem dL_law_1477 : decode cL_law 1477 = .ok (.iload_n 3, 1) := k_29 zcL_law rfl rfl
theorem dL_law_1478 : decode cL_law 1478 = .ok (.iconst 2, 1) := k_5 zcL_law rfl rfl
theorem dL_law_1479 : decode cL_law 1479 = .ok (.iadd, 1) := k_96 zcL_law rfl rfl
theorem dL_law_1480 : decode cL_law 1480 = .ok (.iaload, 1) := k_46 zcL_law rfl rfl
theorem dL_law_1481 : decode cL_law 1481 = .ok (.aload_n 0, 1) := k_42 zcL_law rfl rfl
theorem dL_law_1482 : decode cL_law 1482 = .ok (.iload_n 3, 1) := k_29 zcL_law rfl rfl
theorem dL_law_1483 : decode cL_law 1483 = .ok (.iconst 3, 1) := k_6 zcL_law rfl rfl
theorem dL_law_1484 : decode cL_law 1484 = .ok (.iadd, 1) := k_96 zcL_law rfl rfl
theorem dL_law_1485 : decode cL_law 1485 = .ok (.iaload, 1) := k_46 zcL_law rfl rfl
theorem dL_law_1486 : decode cL_law 1486 = .ok (.aload_n 0, 1) := k_42 zcL_law rfl rfl
theorem dL_law_1487 : decode cL_law 1487 = .ok (.iload_n 3, 1) := k_29 zcL_law rfl rfl
theorem dL_law_1488 : decode cL_law 1488 = .ok (.iconst 4, 1) := k_7 zcL_law rfl rfl
theorem dL_law_1489 : decode cL_law 1489 = .ok (.iadd, 1) := k_96 zcL_law rfl rfl
theorem dL_law_1490 : decode cL_law 1490 = .ok (.iaload, 1) := k_46 zcL_law rfl rfl
theorem dL_law_1491 : decode cL_law 1491 = .ok (.invokevirtual 148, 3) := k_182 zcL_law rfl rfl rfl
theorem dL_law_1494 : decode cL_law 1494 = .ok (.pop, 1) := k_87 zcL_law rfl rfl
theorem dL_law_1495 : decode cL_law 1495 = .ok (.goto 720, 3) := k_167 zcL_law rfl rfl rfl
theorem dL_law_1498 : decode cL_law 1498 = .ok (.aload_n 1, 1) := k_43 zcL_law rfl rfl
theorem dL_law_1499 : decode cL_law 1499 = .ok (.aload_n 0, 1) := k_42 zcL_law rfl rfl
theorem dL_law_1500 : decode cL_law 1500 = .ok (.iload_n 3, 1) := k_29 zcL_law rfl rfl
theorem dL_law_1501 : decode cL_law 1501 = .ok (.iconst 1, 1) := k_4 zcL_law rfl rfl
theorem dL_law_1502 : decode cL_law 1502 = .ok (.iadd, 1) := k_96 zcL_law rfl rfl
theorem dL_law_1503 : decode cL_law 1503 = .ok (.iaload, 1) := k_46 zcL_law rfl rfl
theorem dL_law_1504 : decode cL_law 1504 = .ok (.aload_n 0, 1) := k_42 zcL_law rfl rfl
theorem dL_law_1505 : decode cL_law 1505 = .ok (.iload_n 3, 1) := k_29 zcL_law rfl rfl
theorem dL_law_1506 : decode cL_law 1506 = .ok (.iconst 2, 1) := k_5 zcL_law rfl rfl
theorem dL_law_1507 : decode cL_law 1507 = .ok (.iadd, 1) := k_96 zcL_law rfl rfl
theorem dL_law_1508 : decode cL_law 1508 = .ok (.iaload, 1) := k_46 zcL_law rfl rfl
theorem dL_law_1509 : decode cL_law 1509 = .ok (.invokevirtual 149, 3) := k_182 zcL_law rfl rfl rfl
theorem dL_law_1512 : decode cL_law 1512 = .ok (.pop, 1) := k_87 zcL_law rfl rfl
theorem dL_law_1513 : decode cL_law 1513 = .ok (.aload_n 2, 1) := k_44 zcL_law rfl rfl
theorem dL_law_1514 : decode cL_law 1514 = .ok (.aload_n 0, 1) := k_42 zcL_law rfl rfl
theorem dL_law_1515 : decode cL_law 1515 = .ok (.iload_n 3, 1) := k_29 zcL_law rfl rfl
theorem dL_law_1516 : decode cL_law 1516 = .ok (.iconst 1, 1) := k_4 zcL_law rfl rfl
theorem dL_law_1517 : decode cL_law 1517 = .ok (.iadd, 1) := k_96 zcL_law rfl rfl
theorem dL_law_1518 : decode cL_law 1518 = .ok (.iaload, 1) := k_46 zcL_law rfl rfl
theorem dL_law_1519 : decode cL_law 1519 = .ok (.aload_n 0, 1) := k_42 zcL_law rfl rfl
theorem dL_law_1520 : decode cL_law 1520 = .ok (.iload_n 3, 1) := k_29 zcL_law rfl rfl
theorem dL_law_1521 : decode cL_law 1521 = .ok (.iconst 2, 1) := k_5 zcL_law rfl rfl
theorem dL_law_1522 : decode cL_law 1522 = .ok (.iadd, 1) := k_96 zcL_law rfl rfl
theorem dL_law_1523 : decode cL_law 1523 = .ok (.iaload, 1) := k_46 zcL_law rfl rfl
theorem dL_law_1524 : decode cL_law 1524 = .ok (.invokevirtual 152, 3) := k_182 zcL_law rfl rfl rfl
theorem dL_law_1527 : decode cL_law 1527 = .ok (.pop, 1) := k_87 zcL_law rfl rfl
theorem dL_law_1528 : decode cL_law 1528 = .ok (.goto 687, 3) := k_167 zcL_law rfl rfl rfl
theorem dL_law_1531 : decode cL_law 1531 = .ok (.aload_n 1, 1) := k_43 zcL_law rfl rfl
theorem dL_law_1532 : decode cL_law 1532 = .ok (.aload_n 0, 1) := k_42 zcL_law rfl rfl
theorem dL_law_1533 : decode cL_law 1533 = .ok (.iload_n 3, 1) := k_29 zcL_law rfl rfl
theorem dL_law_1534 : decode cL_law 1534 = .ok (.iconst 1, 1) := k_4 zcL_law rfl rfl
theorem dL_law_1535 : decode cL_law 1535 = .ok (.iadd, 1) := k_96 zcL_law rfl rfl
theorem dL_law_1536 : decode cL_law 1536 = .ok (.iaload, 1) := k_46 zcL_law rfl rfl
theorem dL_law_1537 : decode cL_law 1537 = .ok (.aload_n 0, 1) := k_42 zcL_law rfl rfl
theorem dL_law_1538 : decode cL_law 1538 = .ok (.iload_n 3, 1) := k_29 zcL_law rfl rfl
theorem dL_law_1539 : decode cL_law 1539 = .ok (.iconst 2, 1) := k_5 zcL_law rfl rfl
theorem dL_law_1540 : decode cL_law 1540 = .ok (.iadd, 1) := k_96 zcL_law rfl rfl
theorem dL_law_1541 : decode cL_law 1541 = .ok (.iaload, 1) := k_46 zcL_law rfl rfl
theorem dL_law_1542 : decode cL_law 1542 = .ok (.aload_n 0, 1) := k_42 zcL_law rfl rfl
theorem dL_law_1543 : decode cL_law 1543 = .ok (.iload_n 3, 1) := k_29 zcL_law rfl rfl
theorem dL_law_1544 : decode cL_law 1544 = .ok (.iconst 3, 1) := k_6 zcL_law rfl rfl
theorem dL_law_1545 : decode cL_law 1545 = .ok (.iadd, 1) := k_96 zcL_law rfl rfl
theorem dL_law_1546 : decode cL_law 1546 = .ok (.iaload, 1) := k_46 zcL_law rfl rfl
theorem dL_law_1547 : decode cL_law 1547 = .ok (.invokevirtual 153, 3) := k_182 zcL_law rfl rfl rfl
theorem dL_law_1550 : decode cL_law 1550 = .ok (.pop, 1) := k_87 zcL_law rfl rfl
theorem dL_law_1551 : decode cL_law 1551 = .ok (.aload_n 2, 1) := k_44 zcL_law rfl rfl
theorem dL_law_1552 : decode cL_law 1552 = .ok (.aload_n 0, 1) := k_42 zcL_law rfl rfl
theorem dL_law_1553 : decode cL_law 1553 = .ok (.iload_n 3, 1) := k_29 zcL_law rfl rfl
theorem dL_law_1554 : decode cL_law 1554 = .ok (.iconst 1, 1) := k_4 zcL_law rfl rfl
theorem dL_law_1555 : decode cL_law 1555 = .ok (.iadd, 1) := k_96 zcL_law rfl rfl
theorem dL_law_1556 : decode cL_law 1556 = .ok (.iaload, 1) := k_46 zcL_law rfl rfl
theorem dL_law_1557 : decode cL_law 1557 = .ok (.aload_n 0, 1) := k_42 zcL_law rfl rfl
theorem dL_law_1558 : decode cL_law 1558 = .ok (.iload_n 3, 1) := k_29 zcL_law rfl rfl
theorem dL_law_1559 : decode cL_law 1559 = .ok (.iconst 2, 1) := k_5 zcL_law rfl rfl
theorem dL_law_1560 : decode cL_law 1560 = .ok (.iadd, 1) := k_96 zcL_law rfl rfl
theorem dL_law_1561 : decode cL_law 1561 = .ok (.iaload, 1) := k_46 zcL_law rfl rfl
theorem dL_law_1562 : decode cL_law 1562 = .ok (.aload_n 0, 1) := k_42 zcL_law rfl rfl
theorem dL_law_1563 : decode cL_law 1563 = .ok (.iload_n 3, 1) := k_29 zcL_law rfl rfl
theorem dL_law_1564 : decode cL_law 1564 = .ok (.iconst 3, 1) := k_6 zcL_law rfl rfl
theorem dL_law_1565 : decode cL_law 1565 = .ok (.iadd, 1) := k_96 zcL_law rfl rfl
theorem dL_law_1566 : decode cL_law 1566 = .ok (.iaload, 1) := k_46 zcL_law rfl rfl
theorem dL_law_1567 : decode cL_law 1567 = .ok (.invokevirtual 156, 3) := k_182 zcL_law rfl rfl rfl
theorem dL_law_1570 : decode cL_law 1570 = .ok (.pop, 1) := k_87 zcL_law rfl rfl
theorem dL_law_1571 : decode cL_law 1571 = .ok (.goto 644, 3) := k_167 zcL_law rfl rfl rfl
theorem dL_law_1574 : decode cL_law 1574 = .ok (.aload_n 1, 1) := k_43 zcL_law rfl rfl
theorem dL_law_1575 : decode cL_law 1575 = .ok (.aload_n 0, 1) := k_42 zcL_law rfl rfl
theorem dL_law_1576 : decode cL_law 1576 = .ok (.iload_n 3, 1) := k_29 zcL_law rfl rfl
theorem dL_law_1577 : decode cL_law 1577 = .ok (.iconst 1, 1) := k_4 zcL_law rfl rfl
theorem dL_law_1578 : decode cL_law 1578 = .ok (.iadd, 1) := k_96 zcL_law rfl rfl
theorem dL_law_1579 : decode cL_law 1579 = .ok (.iaload, 1) := k_46 zcL_law rfl rfl
theorem dL_law_1580 : decode cL_law 1580 = .ok (.aload_n 0, 1) := k_42 zcL_law rfl rfl
theorem dL_law_1581 : decode cL_law 1581 = .ok (.iload_n 3, 1) := k_29 zcL_law rfl rfl
theorem dL_law_1582 : decode cL_law 1582 = .ok (.iconst 2, 1) := k_5 zcL_law rfl rfl
theorem dL_law_1583 : decode cL_law 1583 = .ok (.iadd, 1) := k_96 zcL_law rfl rfl
theorem dL_law_1584 : decode cL_law 1584 = .ok (.iaload, 1) := k_46 zcL_law rfl rfl
theorem dL_law_1585 : decode cL_law 1585 = .ok (.invokevirtual 157, 3) := k_182 zcL_law rfl rfl rfl
theorem dL_law_1588 : decode cL_law 1588 = .ok (.pop, 1) := k_87 zcL_law rfl rfl
theorem dL_law_1589 : decode cL_law 1589 = .ok (.aload_n 2, 1) := k_44 zcL_law rfl rfl
theorem dL_law_1590 : decode cL_law 1590 = .ok (.aload_n 0, 1) := k_42 zcL_law rfl rfl
theorem dL_law_1591 : decode cL_law 1591 = .ok (.iload_n 3, 1) := k_29 zcL_law rfl rfl
theorem dL_law_1592 : decode cL_law 1592 = .ok (.iconst 1, 1) := k_4 zcL_law rfl rfl
theorem dL_law_1593 : decode cL_law 1593 = .ok (.iadd, 1) := k_96 zcL_law rfl rfl
theorem dL_law_1594 : decode cL_law 1594 = .ok (.iaload, 1) := k_46 zcL_law rfl rfl
theorem dL_law_1595 : decode cL_law 1595 = .ok (.aload_n 0, 1) := k_42 zcL_law rfl rfl
theorem dL_law_1596 : decode cL_law 1596 = .ok (.iload_n 3, 1) := k_29 zcL_law rfl rfl
theorem dL_law_1597 : decode cL_law 1597 = .ok (.iconst 2, 1) := k_5 zcL_law rfl rfl
theorem dL_law_1598 : decode cL_law 1598 = .ok (.iadd, 1) := k_96 zcL_law rfl rfl
theorem dL_law_1599 : decode cL_law 1599 = .ok (.iaload, 1) := k_46 zcL_law rfl rfl
theorem dL_law_1600 : decode cL_law 1600 = .ok (.invokevirtual 160, 3) := k_182 zcL_law rfl rfl rfl
theorem dL_law_1603 : decode cL_law 1603 = .ok (.pop, 1) := k_87 zcL_law rfl rfl
theorem dL_law_1604 : decode cL_law 1604 = .ok (.goto 611, 3) := k_167 zcL_law rfl rfl rfl
theorem dL_law_1607 : decode cL_law 1607 = .ok (.aload_n 1, 1) := k_43 zcL_law rfl rfl
theorem dL_law_1608 : decode cL_law 1608 = .ok (.aload_n 0, 1) := k_42 zcL_law rfl rfl
theorem dL_law_1609 : decode cL_law 1609 = .ok (.iload_n 3, 1) := k_29 zcL_law rfl rfl
theorem dL_law_1610 : decode cL_law 1610 = .ok (.iconst 1, 1) := k_4 zcL_law rfl rfl
theorem dL_law_1611 : decode cL_law 1611 = .ok (.iadd, 1) := k_96 zcL_law rfl rfl
theorem dL_law_1612 : decode cL_law 1612 = .ok (.iaload, 1) := k_46 zcL_law rfl rfl
theorem dL_law_1613 : decode cL_law 1613 = .ok (.aload_n 0, 1) := k_42 zcL_law rfl rfl
theorem dL_law_1614 : decode cL_law 1614 = .ok (.iload_n 3, 1) := k_29 zcL_law rfl rfl
theorem dL_law_1615 : decode cL_law 1615 = .ok (.iconst 2, 1) := k_5 zcL_law rfl rfl
theorem dL_law_1616 : decode cL_law 1616 = .ok (.iadd, 1) := k_96 zcL_law rfl rfl
theorem dL_law_1617 : decode cL_law 1617 = .ok (.iaload, 1) := k_46 zcL_law rfl rfl
theorem dL_law_1618 : decode cL_law 1618 = .ok (.invokevirtual 161, 3) := k_182 zcL_law rfl rfl rfl
theorem dL_law_1621 : decode cL_law 1621 = .ok (.pop, 1) := k_87 zcL_law rfl rfl
theorem dL_law_1622 : decode cL_law 1622 = .ok (.aload_n 2, 1) := k_44 zcL_law rfl rfl
theorem dL_law_1623 : decode cL_law 1623 = .ok (.aload_n 0, 1) := k_42 zcL_law rfl rfl
theorem dL_law_1624 : decode cL_law 1624 = .ok (.iload_n 3, 1) := k_29 zcL_law rfl rfl
theorem dL_law_1625 : decode cL_law 1625 = .ok (.iconst 1, 1) := k_4 zcL_law rfl rfl
theorem dL_law_1626 : decode cL_law 1626 = .ok (.iadd, 1) := k_96 zcL_law rfl rfl
theorem dL_law_1627 : decode cL_law 1627 = .ok (.iaload, 1) := k_46 zcL_law rfl rfl
theorem dL_law_1628 : decode cL_law 1628 = .ok (.aload_n 0, 1) := k_42 zcL_law rfl rfl
theorem dL_law_1629 : decode cL_law 1629 = .ok (.iload_n 3, 1) := k_29 zcL_law rfl rfl
theorem dL_law_1630 : decode cL_law 1630 = .ok (.iconst 2, 1) := k_5 zcL_law rfl rfl
theorem dL_law_1631 : decode cL_law 1631 = .ok (.iadd, 1) := k_96 zcL_law rfl rfl
theorem dL_law_1632 : decode cL_law 1632 = .ok (.iaload, 1) := k_46 zcL_law rfl rfl
theorem dL_law_1633 : decode cL_law 1633 = .ok (.invokevirtual 164, 3) := k_182 zcL_law rfl rfl rfl
theorem dL_law_1636 : decode cL_law 1636 = .ok (.pop, 1) := k_87 zcL_law rfl rfl
theorem dL_law_1637 : decode cL_law 1637 = .ok (.goto 578, 3) := k_167 zcL_law rfl rfl rfl
theorem dL_law_1640 : decode cL_law 1640 = .ok (.aload_n 1, 1) := k_43 zcL_law rfl rfl
theorem dL_law_1641 : decode cL_law 1641 = .ok (.aload_n 0, 1) := k_42 zcL_law rfl rfl
theorem dL_law_1642 : decode cL_law 1642 = .ok (.iload_n 3, 1) := k_29 zcL_law rfl rfl
theorem dL_law_1643 : decode cL_law 1643 = .ok (.iconst 1, 1) := k_4 zcL_law rfl rfl
theorem dL_law_1644 : decode cL_law 1644 = .ok (.iadd, 1) := k_96 zcL_law rfl rfl
theorem dL_law_1645 : decode cL_law 1645 = .ok (.iaload, 1) := k_46 zcL_law rfl rfl
theorem dL_law_1646 : decode cL_law 1646 = .ok (.aload_n 0, 1) := k_42 zcL_law rfl rfl
theorem dL_law_1647 : decode cL_law 1647 = .ok (.iload_n 3, 1) := k_29 zcL_law rfl rfl
theorem dL_law_1648 : decode cL_law 1648 = .ok (.iconst 2, 1) := k_5 zcL_law rfl rfl
theorem dL_law_1649 : decode cL_law 1649 = .ok (.iadd, 1) := k_96 zcL_law rfl rfl
theorem dL_law_1650 : decode cL_law 1650 = .ok (.iaload, 1) := k_46 zcL_law rfl rfl
theorem dL_law_1651 : decode cL_law 1651 = .ok (.invokevirtual 165, 3) := k_182 zcL_law rfl rfl rfl
theorem dL_law_1654 : decode cL_law 1654 = .ok (.pop, 1) := k_87 zcL_law rfl rfl
theorem dL_law_1655 : decode cL_law 1655 = .ok (.aload_n 2, 1) := k_44 zcL_law rfl rfl
theorem dL_law_1656 : decode cL_law 1656 = .ok (.aload_n 0, 1) := k_42 zcL_law rfl rfl
theorem dL_law_1657 : decode cL_law 1657 = .ok (.iload_n 3, 1) := k_29 zcL_law rfl rfl
theorem dL_law_1658 : decode cL_law 1658 = .ok (.iconst 1, 1) := k_4 zcL_law rfl rfl
theorem dL_law_1659 : decode cL_law 1659 = .ok (.iadd, 1) := k_96 zcL_law rfl rfl
theorem dL_law_1660 : decode cL_law 1660 = .ok (.iaload, 1) := k_46 zcL_law rfl rfl
theorem dL_law_1661 : decode cL_law 1661 = .ok (.aload_n 0, 1) := k_42 zcL_law rfl rfl
theorem dL_law_1662 : decode cL_law 1662 = .ok (.iload_n 3, 1) := k_29 zcL_law rfl rfl
theorem dL_law_1663 : decode cL_law 1663 = .ok (.iconst 2, 1) := k_5 zcL_law rfl rfl
theorem dL_law_1664 : decode cL_law 1664 = .ok (.iadd, 1) := k_96 zcL_law rfl rfl
theorem dL_law_1665 : decode cL_law 1665 = .ok (.iaload, 1) := k_46 zcL_law rfl rfl
theorem dL_law_1666 : decode cL_law 1666 = .ok (.invokevirtual 168, 3) := k_182 zcL_law rfl rfl rfl
theorem dL_law_1669 : decode cL_law 1669 = .ok (.pop, 1) := k_87 zcL_law rfl rfl
theorem dL_law_1670 : decode cL_law 1670 = .ok (.goto 545, 3) := k_167 zcL_law rfl rfl rfl
theorem dL_law_1673 : decode cL_law 1673 = .ok (.aload_n 1, 1) := k_43 zcL_law rfl rfl
theorem dL_law_1674 : decode cL_law 1674 = .ok (.aload_n 0, 1) := k_42 zcL_law rfl rfl
theorem dL_law_1675 : decode cL_law 1675 = .ok (.iload_n 3, 1) := k_29 zcL_law rfl rfl
theorem dL_law_1676 : decode cL_law 1676 = .ok (.iconst 1, 1) := k_4 zcL_law rfl rfl
theorem dL_law_1677 : decode cL_law 1677 = .ok (.iadd, 1) := k_96 zcL_law rfl rfl
theorem dL_law_1678 : decode cL_law 1678 = .ok (.iaload, 1) := k_46 zcL_law rfl rfl
theorem dL_law_1679 : decode cL_law 1679 = .ok (.aload_n 0, 1) := k_42 zcL_law rfl rfl
theorem dL_law_1680 : decode cL_law 1680 = .ok (.iload_n 3, 1) := k_29 zcL_law rfl rfl
theorem dL_law_1681 : decode cL_law 1681 = .ok (.iconst 2, 1) := k_5 zcL_law rfl rfl
theorem dL_law_1682 : decode cL_law 1682 = .ok (.iadd, 1) := k_96 zcL_law rfl rfl
theorem dL_law_1683 : decode cL_law 1683 = .ok (.iaload, 1) := k_46 zcL_law rfl rfl
theorem dL_law_1684 : decode cL_law 1684 = .ok (.aload_n 0, 1) := k_42 zcL_law rfl rfl
theorem dL_law_1685 : decode cL_law 1685 = .ok (.iload_n 3, 1) := k_29 zcL_law rfl rfl
theorem dL_law_1686 : decode cL_law 1686 = .ok (.iconst 3, 1) := k_6 zcL_law rfl rfl
theorem dL_law_1687 : decode cL_law 1687 = .ok (.iadd, 1) := k_96 zcL_law rfl rfl
theorem dL_law_1688 : decode cL_law 1688 = .ok (.iaload, 1) := k_46 zcL_law rfl rfl
theorem dL_law_1689 : decode cL_law 1689 = .ok (.aload_n 0, 1) := k_42 zcL_law rfl rfl
theorem dL_law_1690 : decode cL_law 1690 = .ok (.iload_n 3, 1) := k_29 zcL_law rfl rfl
theorem dL_law_1691 : decode cL_law 1691 = .ok (.iconst 4, 1) := k_7 zcL_law rfl rfl
theorem dL_law_1692 : decode cL_law 1692 = .ok (.iadd, 1) := k_96 zcL_law rfl rfl
theorem dL_law_1693 : decode cL_law 1693 = .ok (.iaload, 1) := k_46 zcL_law rfl rfl
theorem dL_law_1694 : decode cL_law 1694 = .ok (.invokevirtual 169, 3) := k_182 zcL_law rfl rfl rfl
theorem dL_law_1697 : decode cL_law 1697 = .ok (.pop, 1) := k_87 zcL_law rfl rfl
theorem dL_law_1698 : decode cL_law 1698 = .ok (.aload_n 2, 1) := k_44 zcL_law rfl rfl
theorem dL_law_1699 : decode cL_law 1699 = .ok (.aload_n 0, 1) := k_42 zcL_law rfl rfl
theorem dL_law_1700 : decode cL_law 1700 = .ok (.iload_n 3, 1) := k_29 zcL_law rfl rfl
theorem dL_law_1701 : decode cL_law 1701 = .ok (.iconst 1, 1) := k_4 zcL_law rfl rfl
theorem dL_law_1702 : decode cL_law 1702 = .ok (.iadd, 1) := k_96 zcL_law rfl rfl
theorem dL_law_1703 : decode cL_law 1703 = .ok (.iaload, 1) := k_46 zcL_law rfl rfl
theorem dL_law_1704 : decode cL_law 1704 = .ok (.aload_n 0, 1) := k_42 zcL_law rfl rfl
theorem dL_law_1705 : decode cL_law 1705 = .ok (.iload_n 3, 1) := k_29 zcL_law rfl rfl
theorem dL_law_1706 : decode cL_law 1706 = .ok (.iconst 2, 1) := k_5 zcL_law rfl rfl
theorem dL_law_1707 : decode cL_law 1707 = .ok (.iadd, 1) := k_96 zcL_law rfl rfl
theorem dL_law_1708 : decode cL_law 1708 = .ok (.iaload, 1) := k_46 zcL_law rfl rfl
theorem dL_law_1709 : decode cL_law 1709 = .ok (.aload_n 0, 1) := k_42 zcL_law rfl rfl
theorem dL_law_1710 : decode cL_law 1710 = .ok (.iload_n 3, 1) := k_29 zcL_law rfl rfl
theorem dL_law_1711 : decode cL_law 1711 = .ok (.iconst 3, 1) := k_6 zcL_law rfl rfl
theorem dL_law_1712 : decode cL_law 1712 = .ok (.iadd, 1) := k_96 zcL_law rfl rfl
theorem dL_law_1713 : decode cL_law 1713 = .ok (.iaload, 1) := k_46 zcL_law rfl rfl
theorem dL_law_1714 : decode cL_law 1714 = .ok (.aload_n 0, 1) := k_42 zcL_law rfl rfl
theorem dL_law_1715 : decode cL_law 1715 = .ok (.iload_n 3, 1) := k_29 zcL_law rfl rfl
theorem dL_law_1716 : decode cL_law 1716 = .ok (.iconst 4, 1) := k_7 zcL_law rfl rfl
theorem dL_law_1717 : decode cL_law 1717 = .ok (.iadd, 1) := k_96 zcL_law rfl rfl
theorem dL_law_1718 : decode cL_law 1718 = .ok (.iaload, 1) := k_46 zcL_law rfl rfl
theorem dL_law_1719 : decode cL_law 1719 = .ok (.invokevirtual 172, 3) := k_182 zcL_law rfl rfl rfl
theorem dL_law_1722 : decode cL_law 1722 = .ok (.pop, 1) := k_87 zcL_law rfl rfl
theorem dL_law_1723 : decode cL_law 1723 = .ok (.goto 492, 3) := k_167 zcL_law rfl rfl rfl
theorem dL_law_1726 : decode cL_law 1726 = .ok (.aload_n 1, 1) := k_43 zcL_law rfl rfl
theorem dL_law_1727 : decode cL_law 1727 = .ok (.aload_n 0, 1) := k_42 zcL_law rfl rfl
theorem dL_law_1728 : decode cL_law 1728 = .ok (.iload_n 3, 1) := k_29 zcL_law rfl rfl
theorem dL_law_1729 : decode cL_law 1729 = .ok (.iconst 1, 1) := k_4 zcL_law rfl rfl
theorem dL_law_1730 : decode cL_law 1730 = .ok (.iadd, 1) := k_96 zcL_law rfl rfl
theorem dL_law_1731 : decode cL_law 1731 = .ok (.iaload, 1) := k_46 zcL_law rfl rfl
theorem dL_law_1732 : decode cL_law 1732 = .ok (.invokevirtual 173, 3) := k_182 zcL_law rfl rfl rfl
theorem dL_law_1735 : decode cL_law 1735 = .ok (.pop, 1) := k_87 zcL_law rfl rfl
theorem dL_law_1736 : decode cL_law 1736 = .ok (.aload_n 2, 1) := k_44 zcL_law rfl rfl
theorem dL_law_1737 : decode cL_law 1737 = .ok (.aload_n 0, 1) := k_42 zcL_law rfl rfl
theorem dL_law_1738 : decode cL_law 1738 = .ok (.iload_n 3, 1) := k_29 zcL_law rfl rfl
theorem dL_law_1739 : decode cL_law 1739 = .ok (.iconst 1, 1) := k_4 zcL_law rfl rfl
theorem dL_law_1740 : decode cL_law 1740 = .ok (.iadd, 1) := k_96 zcL_law rfl rfl
theorem dL_law_1741 : decode cL_law 1741 = .ok (.iaload, 1) := k_46 zcL_law rfl rfl
theorem dL_law_1742 : decode cL_law 1742 = .ok (.invokevirtual 176, 3) := k_182 zcL_law rfl rfl rfl
theorem dL_law_1745 : decode cL_law 1745 = .ok (.pop, 1) := k_87 zcL_law rfl rfl
theorem dL_law_1746 : decode cL_law 1746 = .ok (.goto 469, 3) := k_167 zcL_law rfl rfl rfl
theorem dL_law_1749 : decode cL_law 1749 = .ok (.aload_n 1, 1) := k_43 zcL_law rfl rfl
theorem dL_law_1750 : decode cL_law 1750 = .ok (.aload_n 0, 1) := k_42 zcL_law rfl rfl
theorem dL_law_1751 : decode cL_law 1751 = .ok (.iload_n 3, 1) := k_29 zcL_law rfl rfl
theorem dL_law_1752 : decode cL_law 1752 = .ok (.iconst 1, 1) := k_4 zcL_law rfl rfl
theorem dL_law_1753 : decode cL_law 1753 = .ok (.iadd, 1) := k_96 zcL_law rfl rfl
theorem dL_law_1754 : decode cL_law 1754 = .ok (.iaload, 1) := k_46 zcL_law rfl rfl
theorem dL_law_1755 : decode cL_law 1755 = .ok (.invokevirtual 177, 3) := k_182 zcL_law rfl rfl rfl
theorem dL_law_1758 : decode cL_law 1758 = .ok (.pop, 1) := k_87 zcL_law rfl rfl
theorem dL_law_1759 : decode cL_law 1759 = .ok (.aload_n 2, 1) := k_44 zcL_law rfl rfl
theorem dL_law_1760 : decode cL_law 1760 = .ok (.aload_n 0, 1) := k_42 zcL_law rfl rfl
theorem dL_law_1761 : decode cL_law 1761 = .ok (.iload_n 3, 1) := k_29 zcL_law rfl rfl
theorem dL_law_1762 : decode cL_law 1762 = .ok (.iconst 1, 1) := k_4 zcL_law rfl rfl
theorem dL_law_1763 : decode cL_law 1763 = .ok (.iadd, 1) := k_96 zcL_law rfl rfl
theorem dL_law_1764 : decode cL_law 1764 = .ok (.iaload, 1) := k_46 zcL_law rfl rfl
theorem dL_law_1765 : decode cL_law 1765 = .ok (.invokevirtual 180, 3) := k_182 zcL_law rfl rfl rfl
theorem dL_law_1768 : decode cL_law 1768 = .ok (.pop, 1) := k_87 zcL_law rfl rfl
theorem dL_law_1769 : decode cL_law 1769 = .ok (.goto 446, 3) := k_167 zcL_law rfl rfl rfl
theorem dL_law_1772 : decode cL_law 1772 = .ok (.aload_n 1, 1) := k_43 zcL_law rfl rfl
theorem dL_law_1773 : decode cL_law 1773 = .ok (.aload_n 0, 1) := k_42 zcL_law rfl rfl
theorem dL_law_1774 : decode cL_law 1774 = .ok (.iload_n 3, 1) := k_29 zcL_law rfl rfl
theorem dL_law_1775 : decode cL_law 1775 = .ok (.iconst 1, 1) := k_4 zcL_law rfl rfl
theorem dL_law_1776 : decode cL_law 1776 = .ok (.iadd, 1) := k_96 zcL_law rfl rfl
theorem dL_law_1777 : decode cL_law 1777 = .ok (.iaload, 1) := k_46 zcL_law rfl rfl
theorem dL_law_1778 : decode cL_law 1778 = .ok (.aload_n 0, 1) := k_42 zcL_law rfl rfl
theorem dL_law_1779 : decode cL_law 1779 = .ok (.iload_n 3, 1) := k_29 zcL_law rfl rfl
theorem dL_law_1780 : decode cL_law 1780 = .ok (.iconst 2, 1) := k_5 zcL_law rfl rfl
theorem dL_law_1781 : decode cL_law 1781 = .ok (.iadd, 1) := k_96 zcL_law rfl rfl
theorem dL_law_1782 : decode cL_law 1782 = .ok (.iaload, 1) := k_46 zcL_law rfl rfl
theorem dL_law_1783 : decode cL_law 1783 = .ok (.aload_n 0, 1) := k_42 zcL_law rfl rfl
theorem dL_law_1784 : decode cL_law 1784 = .ok (.iload_n 3, 1) := k_29 zcL_law rfl rfl
theorem dL_law_1785 : decode cL_law 1785 = .ok (.iconst 3, 1) := k_6 zcL_law rfl rfl
theorem dL_law_1786 : decode cL_law 1786 = .ok (.iadd, 1) := k_96 zcL_law rfl rfl
theorem dL_law_1787 : decode cL_law 1787 = .ok (.iaload, 1) := k_46 zcL_law rfl rfl
theorem dL_law_1788 : decode cL_law 1788 = .ok (.aload_n 0, 1) := k_42 zcL_law rfl rfl
theorem dL_law_1789 : decode cL_law 1789 = .ok (.iload_n 3, 1) := k_29 zcL_law rfl rfl
theorem dL_law_1790 : decode cL_law 1790 = .ok (.iconst 4, 1) := k_7 zcL_law rfl rfl
theorem dL_law_1791 : decode cL_law 1791 = .ok (.iadd, 1) := k_96 zcL_law rfl rfl
theorem dL_law_1792 : decode cL_law 1792 = .ok (.iaload, 1) := k_46 zcL_law rfl rfl
theorem dL_law_1793 : decode cL_law 1793 = .ok (.invokevirtual 181, 3) := k_182 zcL_law rfl rfl rfl
theorem dL_law_1796 : decode cL_law 1796 = .ok (.pop, 1) := k_87 zcL_law rfl rfl
theorem dL_law_1797 : decode cL_law 1797 = .ok (.aload_n 2, 1) := k_44 zcL_law rfl rfl
theorem dL_law_1798 : decode cL_law 1798 = .ok (.aload_n 0, 1) := k_42 zcL_law rfl rfl
theorem dL_law_1799 : decode cL_law 1799 = .ok (.iload_n 3, 1) := k_29 zcL_law rfl rfl
theorem dL_law_1800 : decode cL_law 1800 = .ok (.iconst 1, 1) := k_4 zcL_law rfl rfl
theorem dL_law_1801 : decode cL_law 1801 = .ok (.iadd, 1) := k_96 zcL_law rfl rfl
theorem dL_law_1802 : decode cL_law 1802 = .ok (.iaload, 1) := k_46 zcL_law rfl rfl
theorem dL_law_1803 : decode cL_law 1803 = .ok (.aload_n 0, 1) := k_42 zcL_law rfl rfl
theorem dL_law_1804 : decode cL_law 1804 = .ok (.iload_n 3, 1) := k_29 zcL_law rfl rfl
theorem dL_law_1805 : decode cL_law 1805 = .ok (.iconst 2, 1) := k_5 zcL_law rfl rfl
theorem dL_law_1806 : decode cL_law 1806 = .ok (.iadd, 1) := k_96 zcL_law rfl rfl
theorem dL_law_1807 : decode cL_law 1807 = .ok (.iaload, 1) := k_46 zcL_law rfl rfl
theorem dL_law_1808 : decode cL_law 1808 = .ok (.aload_n 0, 1) := k_42 zcL_law rfl rfl
theorem dL_law_1809 : decode cL_law 1809 = .ok (.iload_n 3, 1) := k_29 zcL_law rfl rfl
theorem dL_law_1810 : decode cL_law 1810 = .ok (.iconst 3, 1) := k_6 zcL_law rfl rfl
theorem dL_law_1811 : decode cL_law 1811 = .ok (.iadd, 1) := k_96 zcL_law rfl rfl
theorem dL_law_1812 : decode cL_law 1812 = .ok (.iaload, 1) := k_46 zcL_law rfl rfl
theorem dL_law_1813 : decode cL_law 1813 = .ok (.aload_n 0, 1) := k_42 zcL_law rfl rfl
theorem dL_law_1814 : decode cL_law 1814 = .ok (.iload_n 3, 1) := k_29 zcL_law rfl rfl
theorem dL_law_1815 : decode cL_law 1815 = .ok (.iconst 4, 1) := k_7 zcL_law rfl rfl
theorem dL_law_1816 : decode cL_law 1816 = .ok (.iadd, 1) := k_96 zcL_law rfl rfl
theorem dL_law_1817 : decode cL_law 1817 = .ok (.iaload, 1) := k_46 zcL_law rfl rfl
theorem dL_law_1818 : decode cL_law 1818 = .ok (.invokevirtual 185, 3) := k_182 zcL_law rfl rfl rfl
theorem dL_law_1821 : decode cL_law 1821 = .ok (.pop, 1) := k_87 zcL_law rfl rfl
theorem dL_law_1822 : decode cL_law 1822 = .ok (.goto 393, 3) := k_167 zcL_law rfl rfl rfl
theorem dL_law_1825 : decode cL_law 1825 = .ok (.aload_n 1, 1) := k_43 zcL_law rfl rfl
theorem dL_law_1826 : decode cL_law 1826 = .ok (.aload_n 0, 1) := k_42 zcL_law rfl rfl
theorem dL_law_1827 : decode cL_law 1827 = .ok (.iload_n 3, 1) := k_29 zcL_law rfl rfl
theorem dL_law_1828 : decode cL_law 1828 = .ok (.iconst 1, 1) := k_4 zcL_law rfl rfl
theorem dL_law_1829 : decode cL_law 1829 = .ok (.iadd, 1) := k_96 zcL_law rfl rfl
theorem dL_law_1830 : decode cL_law 1830 = .ok (.iaload, 1) := k_46 zcL_law rfl rfl
theorem dL_law_1831 : decode cL_law 1831 = .ok (.invokevirtual 186, 3) := k_182 zcL_law rfl rfl rfl
theorem dL_law_1834 : decode cL_law 1834 = .ok (.pop, 1) := k_87 zcL_law rfl rfl
theorem dL_law_1835 : decode cL_law 1835 = .ok (.aload_n 2, 1) := k_44 zcL_law rfl rfl
theorem dL_law_1836 : decode cL_law 1836 = .ok (.aload_n 0, 1) := k_42 zcL_law rfl rfl
theorem dL_law_1837 : decode cL_law 1837 = .ok (.iload_n 3, 1) := k_29 zcL_law rfl rfl
theorem dL_law_1838 : decode cL_law 1838 = .ok (.iconst 1, 1) := k_4 zcL_law rfl rfl
theorem dL_law_1839 : decode cL_law 1839 = .ok (.iadd, 1) := k_96 zcL_law rfl rfl
theorem dL_law_1840 : decode cL_law 1840 = .ok (.iaload, 1) := k_46 zcL_law rfl rfl
theorem dL_law_1841 : decode cL_law 1841 = .ok (.invokevirtual 189, 3) := k_182 zcL_law rfl rfl rfl
theorem dL_law_1844 : decode cL_law 1844 = .ok (.pop, 1) := k_87 zcL_law rfl rfl
theorem dL_law_1845 : decode cL_law 1845 = .ok (.goto 370, 3) := k_167 zcL_law rfl rfl rfl
theorem dL_law_1848 : decode cL_law 1848 = .ok (.aload_n 1, 1) := k_43 zcL_law rfl rfl
theorem dL_law_1849 : decode cL_law 1849 = .ok (.aload_n 0, 1) := k_42 zcL_law rfl rfl
theorem dL_law_1850 : decode cL_law 1850 = .ok (.iload_n 3, 1) := k_29 zcL_law rfl rfl
theorem dL_law_1851 : decode cL_law 1851 = .ok (.iconst 1, 1) := k_4 zcL_law rfl rfl
theorem dL_law_1852 : decode cL_law 1852 = .ok (.iadd, 1) := k_96 zcL_law rfl rfl
theorem dL_law_1853 : decode cL_law 1853 = .ok (.iaload, 1) := k_46 zcL_law rfl rfl
theorem dL_law_1854 : decode cL_law 1854 = .ok (.aload_n 0, 1) := k_42 zcL_law rfl rfl
theorem dL_law_1855 : decode cL_law 1855 = .ok (.iload_n 3, 1) := k_29 zcL_law rfl rfl
theorem dL_law_1856 : decode cL_law 1856 = .ok (.iconst 2, 1) := k_5 zcL_law rfl rfl
theorem dL_law_1857 : decode cL_law 1857 = .ok (.iadd, 1) := k_96 zcL_law rfl rfl
theorem dL_law_1858 : decode cL_law 1858 = .ok (.iaload, 1) := k_46 zcL_law rfl rfl
theorem dL_law_1859 : decode cL_law 1859 = .ok (.invokevirtual 190, 3) := k_182 zcL_law rfl rfl rfl
theorem dL_law_1862 : decode cL_law 1862 = .ok (.pop, 1) := k_87 zcL_law rfl rfl
theorem dL_law_1863 : decode cL_law 1863 = .ok (.aload_n 2, 1) := k_44 zcL_law rfl rfl
theorem dL_law_1864 : decode cL_law 1864 = .ok (.aload_n 0, 1) := k_42 zcL_law rfl rfl
theorem dL_law_1865 : decode cL_law 1865 = .ok (.iload_n 3, 1) := k_29 zcL_law rfl rfl
theorem dL_law_1866 : decode cL_law 1866 = .ok (.iconst 1, 1) := k_4 zcL_law rfl rfl
theorem dL_law_1867 : decode cL_law 1867 = .ok (.iadd, 1) := k_96 zcL_law rfl rfl
theorem dL_law_1868 : decode cL_law 1868 = .ok (.iaload, 1) := k_46 zcL_law rfl rfl
theorem dL_law_1869 : decode cL_law 1869 = .ok (.aload_n 0, 1) := k_42 zcL_law rfl rfl
theorem dL_law_1870 : decode cL_law 1870 = .ok (.iload_n 3, 1) := k_29 zcL_law rfl rfl
theorem dL_law_1871 : decode cL_law 1871 = .ok (.iconst 2, 1) := k_5 zcL_law rfl rfl
theorem dL_law_1872 : decode cL_law 1872 = .ok (.iadd, 1) := k_96 zcL_law rfl rfl
theorem dL_law_1873 : decode cL_law 1873 = .ok (.iaload, 1) := k_46 zcL_law rfl rfl
theorem dL_law_1874 : decode cL_law 1874 = .ok (.invokevirtual 193, 3) := k_182 zcL_law rfl rfl rfl
theorem dL_law_1877 : decode cL_law 1877 = .ok (.pop, 1) := k_87 zcL_law rfl rfl
theorem dL_law_1878 : decode cL_law 1878 = .ok (.goto 337, 3) := k_167 zcL_law rfl rfl rfl
theorem dL_law_1881 : decode cL_law 1881 = .ok (.aload_n 1, 1) := k_43 zcL_law rfl rfl
theorem dL_law_1882 : decode cL_law 1882 = .ok (.aload_n 0, 1) := k_42 zcL_law rfl rfl
theorem dL_law_1883 : decode cL_law 1883 = .ok (.iload_n 3, 1) := k_29 zcL_law rfl rfl
theorem dL_law_1884 : decode cL_law 1884 = .ok (.iconst 1, 1) := k_4 zcL_law rfl rfl
theorem dL_law_1885 : decode cL_law 1885 = .ok (.iadd, 1) := k_96 zcL_law rfl rfl
theorem dL_law_1886 : decode cL_law 1886 = .ok (.iaload, 1) := k_46 zcL_law rfl rfl
theorem dL_law_1887 : decode cL_law 1887 = .ok (.aload_n 0, 1) := k_42 zcL_law rfl rfl
theorem dL_law_1888 : decode cL_law 1888 = .ok (.iload_n 3, 1) := k_29 zcL_law rfl rfl
theorem dL_law_1889 : decode cL_law 1889 = .ok (.iconst 2, 1) := k_5 zcL_law rfl rfl
theorem dL_law_1890 : decode cL_law 1890 = .ok (.iadd, 1) := k_96 zcL_law rfl rfl
theorem dL_law_1891 : decode cL_law 1891 = .ok (.iaload, 1) := k_46 zcL_law rfl rfl
theorem dL_law_1892 : decode cL_law 1892 = .ok (.aload_n 0, 1) := k_42 zcL_law rfl rfl
theorem dL_law_1893 : decode cL_law 1893 = .ok (.iload_n 3, 1) := k_29 zcL_law rfl rfl
theorem dL_law_1894 : decode cL_law 1894 = .ok (.iconst 3, 1) := k_6 zcL_law rfl rfl
theorem dL_law_1895 : decode cL_law 1895 = .ok (.iadd, 1) := k_96 zcL_law rfl rfl
theorem dL_law_1896 : decode cL_law 1896 = .ok (.iaload, 1) := k_46 zcL_law rfl rfl
theorem dL_law_1897 : decode cL_law 1897 = .ok (.aload_n 0, 1) := k_42 zcL_law rfl rfl
theorem dL_law_1898 : decode cL_law 1898 = .ok (.iload_n 3, 1) := k_29 zcL_law rfl rfl
theorem dL_law_1899 : decode cL_law 1899 = .ok (.iconst 4, 1) := k_7 zcL_law rfl rfl
theorem dL_law_1900 : decode cL_law 1900 = .ok (.iadd, 1) := k_96 zcL_law rfl rfl
theorem dL_law_1901 : decode cL_law 1901 = .ok (.iaload, 1) := k_46 zcL_law rfl rfl
theorem dL_law_1902 : decode cL_law 1902 = .ok (.invokevirtual 194, 3) := k_182 zcL_law rfl rfl rfl
theorem dL_law_1905 : decode cL_law 1905 = .ok (.pop, 1) := k_87 zcL_law rfl rfl
theorem dL_law_1906 : decode cL_law 1906 = .ok (.aload_n 2, 1) := k_44 zcL_law rfl rfl
theorem dL_law_1907 : decode cL_law 1907 = .ok (.aload_n 0, 1) := k_42 zcL_law rfl rfl
theorem dL_law_1908 : decode cL_law 1908 = .ok (.iload_n 3, 1) := k_29 zcL_law rfl rfl
theorem dL_law_1909 : decode cL_law 1909 = .ok (.iconst 1, 1) := k_4 zcL_law rfl rfl
theorem dL_law_1910 : decode cL_law 1910 = .ok (.iadd, 1) := k_96 zcL_law rfl rfl
theorem dL_law_1911 : decode cL_law 1911 = .ok (.iaload, 1) := k_46 zcL_law rfl rfl
theorem dL_law_1912 : decode cL_law 1912 = .ok (.aload_n 0, 1) := k_42 zcL_law rfl rfl
theorem dL_law_1913 : decode cL_law 1913 = .ok (.iload_n 3, 1) := k_29 zcL_law rfl rfl
theorem dL_law_1914 : decode cL_law 1914 = .ok (.iconst 2, 1) := k_5 zcL_law rfl rfl
theorem dL_law_1915 : decode cL_law 1915 = .ok (.iadd, 1) := k_96 zcL_law rfl rfl
theorem dL_law_1916 : decode cL_law 1916 = .ok (.iaload, 1) := k_46 zcL_law rfl rfl
theorem dL_law_1917 : decode cL_law 1917 = .ok (.aload_n 0, 1) := k_42 zcL_law rfl rfl
theorem dL_law_1918 : decode cL_law 1918 = .ok (.iload_n 3, 1) := k_29 zcL_law rfl rfl
theorem dL_law_1919 : decode cL_law 1919 = .ok (.iconst 3, 1) := k_6 zcL_law rfl rfl
theorem dL_law_1920 : decode cL_law 1920 = .ok (.iadd, 1) := k_96 zcL_law rfl rfl
theorem dL_law_1921 : decode cL_law 1921 = .ok (.iaload, 1) := k_46 zcL_law rfl rfl
theorem dL_law_1922 : decode cL_law 1922 = .ok (.aload_n 0, 1) := k_42 zcL_law rfl rfl
theorem dL_law_1923 : decode cL_law 1923 = .ok (.iload_n 3, 1) := k_29 zcL_law rfl rfl
theorem dL_law_1924 : decode cL_law 1924 = .ok (.iconst 4, 1) := k_7 zcL_law rfl rfl
theorem dL_law_1925 : decode cL_law 1925 = .ok (.iadd, 1) := k_96 zcL_law rfl rfl
theorem dL_law_1926 : decode cL_law 1926 = .ok (.iaload, 1) := k_46 zcL_law rfl rfl
theorem dL_law_1927 : decode cL_law 1927 = .ok (.invokevirtual 197, 3) := k_182 zcL_law rfl rfl rfl
theorem dL_law_1930 : decode cL_law 1930 = .ok (.pop, 1) := k_87 zcL_law rfl rfl
theorem dL_law_1931 : decode cL_law 1931 = .ok (.goto 284, 3) := k_167 zcL_law rfl rfl rfl
theorem dL_law_1934 : decode cL_law 1934 = .ok (.aload_n 1, 1) := k_43 zcL_law rfl rfl
theorem dL_law_1935 : decode cL_law 1935 = .ok (.aload_n 0, 1) := k_42 zcL_law rfl rfl
theorem dL_law_1936 : decode cL_law 1936 = .ok (.iload_n 3, 1) := k_29 zcL_law rfl rfl
theorem dL_law_1937 : decode cL_law 1937 = .ok (.iconst 1, 1) := k_4 zcL_law rfl rfl
theorem dL_law_1938 : decode cL_law 1938 = .ok (.iadd, 1) := k_96 zcL_law rfl rfl
theorem dL_law_1939 : decode cL_law 1939 = .ok (.iaload, 1) := k_46 zcL_law rfl rfl
theorem dL_law_1940 : decode cL_law 1940 = .ok (.aload_n 0, 1) := k_42 zcL_law rfl rfl
theorem dL_law_1941 : decode cL_law 1941 = .ok (.iload_n 3, 1) := k_29 zcL_law rfl rfl
theorem dL_law_1942 : decode cL_law 1942 = .ok (.iconst 2, 1) := k_5 zcL_law rfl rfl
theorem dL_law_1943 : decode cL_law 1943 = .ok (.iadd, 1) := k_96 zcL_law rfl rfl
theorem dL_law_1944 : decode cL_law 1944 = .ok (.iaload, 1) := k_46 zcL_law rfl rfl
theorem dL_law_1945 : decode cL_law 1945 = .ok (.aload_n 0, 1) := k_42 zcL_law rfl rfl
theorem dL_law_1946 : decode cL_law 1946 = .ok (.iload_n 3, 1) := k_29 zcL_law rfl rfl
theorem dL_law_1947 : decode cL_law 1947 = .ok (.iconst 3, 1) := k_6 zcL_law rfl rfl
theorem dL_law_1948 : decode cL_law 1948 = .ok (.iadd, 1) := k_96 zcL_law rfl rfl
theorem dL_law_1949 : decode cL_law 1949 = .ok (.iaload, 1) := k_46 zcL_law rfl rfl
theorem dL_law_1950 : decode cL_law 1950 = .ok (.aload_n 0, 1) := k_42 zcL_law rfl rfl
theorem dL_law_1951 : decode cL_law 1951 = .ok (.iload_n 3, 1) := k_29 zcL_law rfl rfl
theorem dL_law_1952 : decode cL_law 1952 = .ok (.iconst 4, 1) := k_7 zcL_law rfl rfl
theorem dL_law_1953 : decode cL_law 1953 = .ok (.iadd, 1) := k_96 zcL_law rfl rfl
theorem dL_law_1954 : decode cL_law 1954 = .ok (.iaload, 1) := k_46 zcL_law rfl rfl
theorem dL_law_1955 : decode cL_law 1955 = .ok (.invokevirtual 198, 3) := k_182 zcL_law rfl rfl rfl
theorem dL_law_1958 : decode cL_law 1958 = .ok (.aload_n 2, 1) := k_44 zcL_law rfl rfl
theorem dL_law_1959 : decode cL_law 1959 = .ok (.aload_n 0, 1) := k_42 zcL_law rfl rfl
theorem dL_law_1960 : decode cL_law 1960 = .ok (.iload_n 3, 1) := k_29 zcL_law rfl rfl
theorem dL_law_1961 : decode cL_law 1961 = .ok (.iconst 1, 1) := k_4 zcL_law rfl rfl
theorem dL_law_1962 : decode cL_law 1962 = .ok (.iadd, 1) := k_96 zcL_law rfl rfl
theorem dL_law_1963 : decode cL_law 1963 = .ok (.iaload, 1) := k_46 zcL_law rfl rfl
theorem dL_law_1964 : decode cL_law 1964 = .ok (.aload_n 0, 1) := k_42 zcL_law rfl rfl
theorem dL_law_1965 : decode cL_law 1965 = .ok (.iload_n 3, 1) := k_29 zcL_law rfl rfl
theorem dL_law_1966 : decode cL_law 1966 = .ok (.iconst 2, 1) := k_5 zcL_law rfl rfl
theorem dL_law_1967 : decode cL_law 1967 = .ok (.iadd, 1) := k_96 zcL_law rfl rfl
theorem dL_law_1968 : decode cL_law 1968 = .ok (.iaload, 1) := k_46 zcL_law rfl rfl
theorem dL_law_1969 : decode cL_law 1969 = .ok (.aload_n 0, 1) := k_42 zcL_law rfl rfl
theorem dL_law_1970 : decode cL_law 1970 = .ok (.iload_n 3, 1) := k_29 zcL_law rfl rfl
theorem dL_law_1971 : decode cL_law 1971 = .ok (.iconst 3, 1) := k_6 zcL_law rfl rfl
theorem dL_law_1972 : decode cL_law 1972 = .ok (.iadd, 1) := k_96 zcL_law rfl rfl
theorem dL_law_1973 : decode cL_law 1973 = .ok (.iaload, 1) := k_46 zcL_law rfl rfl
theorem dL_law_1974 : decode cL_law 1974 = .ok (.aload_n 0, 1) := k_42 zcL_law rfl rfl
theorem dL_law_1975 : decode cL_law 1975 = .ok (.iload_n 3, 1) := k_29 zcL_law rfl rfl
theorem dL_law_1976 : decode cL_law 1976 = .ok (.iconst 4, 1) := k_7 zcL_law rfl rfl
theorem dL_law_1977 : decode cL_law 1977 = .ok (.iadd, 1) := k_96 zcL_law rfl rfl
theorem dL_law_1978 : decode cL_law 1978 = .ok (.iaload, 1) := k_46 zcL_law rfl rfl
theorem dL_law_1979 : decode cL_law 1979 = .ok (.invokevirtual 201, 3) := k_182 zcL_law rfl rfl rfl
theorem dL_law_1982 : decode cL_law 1982 = .ok (.if_icmp .eq 233, 3) := k_159 zcL_law rfl rfl rfl
theorem dL_law_1985 : decode cL_law 1985 = .ok (.iconst 0, 1) := k_3 zcL_law rfl rfl
theorem dL_law_1986 : decode cL_law 1986 = .ok (.ireturn, 1) := k_172 zcL_law rfl rfl
theorem dL_law_1987 : decode cL_law 1987 = .ok (.aload_n 1, 1) := k_43 zcL_law rfl rfl
theorem dL_law_1988 : decode cL_law 1988 = .ok (.aload_n 0, 1) := k_42 zcL_law rfl rfl
theorem dL_law_1989 : decode cL_law 1989 = .ok (.iload_n 3, 1) := k_29 zcL_law rfl rfl
theorem dL_law_1990 : decode cL_law 1990 = .ok (.iconst 1, 1) := k_4 zcL_law rfl rfl
theorem dL_law_1991 : decode cL_law 1991 = .ok (.iadd, 1) := k_96 zcL_law rfl rfl
theorem dL_law_1992 : decode cL_law 1992 = .ok (.iaload, 1) := k_46 zcL_law rfl rfl
theorem dL_law_1993 : decode cL_law 1993 = .ok (.aload_n 0, 1) := k_42 zcL_law rfl rfl
theorem dL_law_1994 : decode cL_law 1994 = .ok (.iload_n 3, 1) := k_29 zcL_law rfl rfl
theorem dL_law_1995 : decode cL_law 1995 = .ok (.iconst 2, 1) := k_5 zcL_law rfl rfl
theorem dL_law_1996 : decode cL_law 1996 = .ok (.iadd, 1) := k_96 zcL_law rfl rfl
theorem dL_law_1997 : decode cL_law 1997 = .ok (.iaload, 1) := k_46 zcL_law rfl rfl
theorem dL_law_1998 : decode cL_law 1998 = .ok (.aload_n 0, 1) := k_42 zcL_law rfl rfl
theorem dL_law_1999 : decode cL_law 1999 = .ok (.iload_n 3, 1) := k_29 zcL_law rfl rfl
theorem dL_law_2000 : decode cL_law 2000 = .ok (.iconst 3, 1) := k_6 zcL_law rfl rfl
theorem dL_law_2001 : decode cL_law 2001 = .ok (.iadd, 1) := k_96 zcL_law rfl rfl
theorem dL_law_2002 : decode cL_law 2002 = .ok (.iaload, 1) := k_46 zcL_law rfl rfl
theorem dL_law_2003 : decode cL_law 2003 = .ok (.aload_n 0, 1) := k_42 zcL_law rfl rfl
theorem dL_law_2004 : decode cL_law 2004 = .ok (.iload_n 3, 1) := k_29 zcL_law rfl rfl
theorem dL_law_2005 : decode cL_law 2005 = .ok (.iconst 4, 1) := k_7 zcL_law rfl rfl
theorem dL_law_2006 : decode cL_law 2006 = .ok (.iadd, 1) := k_96 zcL_law rfl rfl
theorem dL_law_2007 : decode cL_law 2007 = .ok (.iaload, 1) := k_46 zcL_law rfl rfl
theorem dL_law_2008 : decode cL_law 2008 = .ok (.invokevirtual 202, 3) := k_182 zcL_law rfl rfl rfl
theorem dL_law_2011 : decode cL_law 2011 = .ok (.pop, 1) := k_87 zcL_law rfl rfl
theorem dL_law_2012 : decode cL_law 2012 = .ok (.aload_n 2, 1) := k_44 zcL_law rfl rfl
theorem dL_law_2013 : decode cL_law 2013 = .ok (.aload_n 0, 1) := k_42 zcL_law rfl rfl
theorem dL_law_2014 : decode cL_law 2014 = .ok (.iload_n 3, 1) := k_29 zcL_law rfl rfl
theorem dL_law_2015 : decode cL_law 2015 = .ok (.iconst 1, 1) := k_4 zcL_law rfl rfl
theorem dL_law_2016 : decode cL_law 2016 = .ok (.iadd, 1) := k_96 zcL_law rfl rfl
theorem dL_law_2017 : decode cL_law 2017 = .ok (.iaload, 1) := k_46 zcL_law rfl rfl
theorem dL_law_2018 : decode cL_law 2018 = .ok (.aload_n 0, 1) := k_42 zcL_law rfl rfl
theorem dL_law_2019 : decode cL_law 2019 = .ok (.iload_n 3, 1) := k_29 zcL_law rfl rfl
theorem dL_law_2020 : decode cL_law 2020 = .ok (.iconst 2, 1) := k_5 zcL_law rfl rfl
theorem dL_law_2021 : decode cL_law 2021 = .ok (.iadd, 1) := k_96 zcL_law rfl rfl
theorem dL_law_2022 : decode cL_law 2022 = .ok (.iaload, 1) := k_46 zcL_law rfl rfl
theorem dL_law_2023 : decode cL_law 2023 = .ok (.aload_n 0, 1) := k_42 zcL_law rfl rfl
theorem dL_law_2024 : decode cL_law 2024 = .ok (.iload_n 3, 1) := k_29 zcL_law rfl rfl
theorem dL_law_2025 : decode cL_law 2025 = .ok (.iconst 3, 1) := k_6 zcL_law rfl rfl
theorem dL_law_2026 : decode cL_law 2026 = .ok (.iadd, 1) := k_96 zcL_law rfl rfl
theorem dL_law_2027 : decode cL_law 2027 = .ok (.iaload, 1) := k_46 zcL_law rfl rfl
theorem dL_law_2028 : decode cL_law 2028 = .ok (.aload_n 0, 1) := k_42 zcL_law rfl rfl
theorem dL_law_2029 : decode cL_law 2029 = .ok (.iload_n 3, 1) := k_29 zcL_law rfl rfl
theorem dL_law_2030 : decode cL_law 2030 = .ok (.iconst 4, 1) := k_7 zcL_law rfl rfl
theorem dL_law_2031 : decode cL_law 2031 = .ok (.iadd, 1) := k_96 zcL_law rfl rfl
theorem dL_law_2032 : decode cL_law 2032 = .ok (.iaload, 1) := k_46 zcL_law rfl rfl
theorem dL_law_2033 : decode cL_law 2033 = .ok (.invokevirtual 205, 3) := k_182 zcL_law rfl rfl rfl
theorem dL_law_2036 : decode cL_law 2036 = .ok (.pop, 1) := k_87 zcL_law rfl rfl
theorem dL_law_2037 : decode cL_law 2037 = .ok (.goto 178, 3) := k_167 zcL_law rfl rfl rfl
theorem dL_law_2040 : decode cL_law 2040 = .ok (.aload_n 1, 1) := k_43 zcL_law rfl rfl
theorem dL_law_2041 : decode cL_law 2041 = .ok (.aload_n 0, 1) := k_42 zcL_law rfl rfl
theorem dL_law_2042 : decode cL_law 2042 = .ok (.iload_n 3, 1) := k_29 zcL_law rfl rfl
theorem dL_law_2043 : decode cL_law 2043 = .ok (.iconst 1, 1) := k_4 zcL_law rfl rfl
theorem dL_law_2044 : decode cL_law 2044 = .ok (.iadd, 1) := k_96 zcL_law rfl rfl
theorem dL_law_2045 : decode cL_law 2045 = .ok (.iaload, 1) := k_46 zcL_law rfl rfl
theorem dL_law_2046 : decode cL_law 2046 = .ok (.aload_n 0, 1) := k_42 zcL_law rfl rfl
theorem dL_law_2047 : decode cL_law 2047 = .ok (.iload_n 3, 1) := k_29 zcL_law rfl rfl
theorem dL_law_2048 : decode cL_law 2048 = .ok (.iconst 2, 1) := k_5 zcL_law rfl rfl
theorem dL_law_2049 : decode cL_law 2049 = .ok (.iadd, 1) := k_96 zcL_law rfl rfl
theorem dL_law_2050 : decode cL_law 2050 = .ok (.iaload, 1) := k_46 zcL_law rfl rfl
theorem dL_law_2051 : decode cL_law 2051 = .ok (.aload_n 0, 1) := k_42 zcL_law rfl rfl
theorem dL_law_2052 : decode cL_law 2052 = .ok (.iload_n 3, 1) := k_29 zcL_law rfl rfl
theorem dL_law_2053 : decode cL_law 2053 = .ok (.iconst 3, 1) := k_6 zcL_law rfl rfl
theorem dL_law_2054 : decode cL_law 2054 = .ok (.iadd, 1) := k_96 zcL_law rfl rfl
theorem dL_law_2055 : decode cL_law 2055 = .ok (.iaload, 1) := k_46 zcL_law rfl rfl
theorem dL_law_2056 : decode cL_law 2056 = .ok (.invokevirtual 206, 3) := k_182 zcL_law rfl rfl rfl
theorem dL_law_2059 : decode cL_law 2059 = .ok (.pop, 1) := k_87 zcL_law rfl rfl
theorem dL_law_2060 : decode cL_law 2060 = .ok (.aload_n 2, 1) := k_44 zcL_law rfl rfl
theorem dL_law_2061 : decode cL_law 2061 = .ok (.aload_n 0, 1) := k_42 zcL_law rfl rfl
theorem dL_law_2062 : decode cL_law 2062 = .ok (.iload_n 3, 1) := k_29 zcL_law rfl rfl
theorem dL_law_2063 : decode cL_law 2063 = .ok (.iconst 1, 1) := k_4 zcL_law rfl rfl
theorem dL_law_2064 : decode cL_law 2064 = .ok (.iadd, 1) := k_96 zcL_law rfl rfl
theorem dL_law_2065 : decode cL_law 2065 = .ok (.iaload, 1) := k_46 zcL_law rfl rfl
theorem dL_law_2066 : decode cL_law 2066 = .ok (.aload_n 0, 1) := k_42 zcL_law rfl rfl
theorem dL_law_2067 : decode cL_law 2067 = .ok (.iload_n 3, 1) := k_29 zcL_law rfl rfl
theorem dL_law_2068 : decode cL_law 2068 = .ok (.iconst 2, 1) := k_5 zcL_law rfl rfl
theorem dL_law_2069 : decode cL_law 2069 = .ok (.iadd, 1) := k_96 zcL_law rfl rfl
theorem dL_law_2070 : decode cL_law 2070 = .ok (.iaload, 1) := k_46 zcL_law rfl rfl
theorem dL_law_2071 : decode cL_law 2071 = .ok (.aload_n 0, 1) := k_42 zcL_law rfl rfl
theorem dL_law_2072 : decode cL_law 2072 = .ok (.iload_n 3, 1) := k_29 zcL_law rfl rfl
theorem dL_law_2073 : decode cL_law 2073 = .ok (.iconst 3, 1) := k_6 zcL_law rfl rfl
theorem dL_law_2074 : decode cL_law 2074 = .ok (.iadd, 1) := k_96 zcL_law rfl rfl
theorem dL_law_2075 : decode cL_law 2075 = .ok (.iaload, 1) := k_46 zcL_law rfl rfl
theorem dL_law_2076 : decode cL_law 2076 = .ok (.invokevirtual 209, 3) := k_182 zcL_law rfl rfl rfl
theorem dL_law_2079 : decode cL_law 2079 = .ok (.pop, 1) := k_87 zcL_law rfl rfl
theorem dL_law_2080 : decode cL_law 2080 = .ok (.goto 135, 3) := k_167 zcL_law rfl rfl rfl
theorem dL_law_2083 : decode cL_law 2083 = .ok (.aload_n 1, 1) := k_43 zcL_law rfl rfl
theorem dL_law_2084 : decode cL_law 2084 = .ok (.aload_n 0, 1) := k_42 zcL_law rfl rfl
theorem dL_law_2085 : decode cL_law 2085 = .ok (.iload_n 3, 1) := k_29 zcL_law rfl rfl
theorem dL_law_2086 : decode cL_law 2086 = .ok (.iconst 1, 1) := k_4 zcL_law rfl rfl
theorem dL_law_2087 : decode cL_law 2087 = .ok (.iadd, 1) := k_96 zcL_law rfl rfl
theorem dL_law_2088 : decode cL_law 2088 = .ok (.iaload, 1) := k_46 zcL_law rfl rfl
theorem dL_law_2089 : decode cL_law 2089 = .ok (.aload_n 0, 1) := k_42 zcL_law rfl rfl
theorem dL_law_2090 : decode cL_law 2090 = .ok (.iload_n 3, 1) := k_29 zcL_law rfl rfl
theorem dL_law_2091 : decode cL_law 2091 = .ok (.iconst 2, 1) := k_5 zcL_law rfl rfl
theorem dL_law_2092 : decode cL_law 2092 = .ok (.iadd, 1) := k_96 zcL_law rfl rfl
theorem dL_law_2093 : decode cL_law 2093 = .ok (.iaload, 1) := k_46 zcL_law rfl rfl
theorem dL_law_2094 : decode cL_law 2094 = .ok (.aload_n 0, 1) := k_42 zcL_law rfl rfl
theorem dL_law_2095 : decode cL_law 2095 = .ok (.iload_n 3, 1) := k_29 zcL_law rfl rfl
theorem dL_law_2096 : decode cL_law 2096 = .ok (.iconst 3, 1) := k_6 zcL_law rfl rfl
theorem dL_law_2097 : decode cL_law 2097 = .ok (.iadd, 1) := k_96 zcL_law rfl rfl
theorem dL_law_2098 : decode cL_law 2098 = .ok (.iaload, 1) := k_46 zcL_law rfl rfl
theorem dL_law_2099 : decode cL_law 2099 = .ok (.aload_n 0, 1) := k_42 zcL_law rfl rfl
theorem dL_law_2100 : decode cL_law 2100 = .ok (.iload_n 3, 1) := k_29 zcL_law rfl rfl
theorem dL_law_2101 : decode cL_law 2101 = .ok (.iconst 4, 1) := k_7 zcL_law rfl rfl
theorem dL_law_2102 : decode cL_law 2102 = .ok (.iadd, 1) := k_96 zcL_law rfl rfl
theorem dL_law_2103 : decode cL_law 2103 = .ok (.iaload, 1) := k_46 zcL_law rfl rfl
theorem dL_law_2104 : decode cL_law 2104 = .ok (.invokevirtual 210, 3) := k_182 zcL_law rfl rfl rfl
theorem dL_law_2107 : decode cL_law 2107 = .ok (.pop, 1) := k_87 zcL_law rfl rfl
theorem dL_law_2108 : decode cL_law 2108 = .ok (.aload_n 2, 1) := k_44 zcL_law rfl rfl
theorem dL_law_2109 : decode cL_law 2109 = .ok (.aload_n 0, 1) := k_42 zcL_law rfl rfl
theorem dL_law_2110 : decode cL_law 2110 = .ok (.iload_n 3, 1) := k_29 zcL_law rfl rfl
theorem dL_law_2111 : decode cL_law 2111 = .ok (.iconst 1, 1) := k_4 zcL_law rfl rfl
theorem dL_law_2112 : decode cL_law 2112 = .ok (.iadd, 1) := k_96 zcL_law rfl rfl
theorem dL_law_2113 : decode cL_law 2113 = .ok (.iaload, 1) := k_46 zcL_law rfl rfl
theorem dL_law_2114 : decode cL_law 2114 = .ok (.aload_n 0, 1) := k_42 zcL_law rfl rfl
theorem dL_law_2115 : decode cL_law 2115 = .ok (.iload_n 3, 1) := k_29 zcL_law rfl rfl
theorem dL_law_2116 : decode cL_law 2116 = .ok (.iconst 2, 1) := k_5 zcL_law rfl rfl
theorem dL_law_2117 : decode cL_law 2117 = .ok (.iadd, 1) := k_96 zcL_law rfl rfl
theorem dL_law_2118 : decode cL_law 2118 = .ok (.iaload, 1) := k_46 zcL_law rfl rfl
theorem dL_law_2119 : decode cL_law 2119 = .ok (.aload_n 0, 1) := k_42 zcL_law rfl rfl
theorem dL_law_2120 : decode cL_law 2120 = .ok (.iload_n 3, 1) := k_29 zcL_law rfl rfl
theorem dL_law_2121 : decode cL_law 2121 = .ok (.iconst 3, 1) := k_6 zcL_law rfl rfl
theorem dL_law_2122 : decode cL_law 2122 = .ok (.iadd, 1) := k_96 zcL_law rfl rfl
theorem dL_law_2123 : decode cL_law 2123 = .ok (.iaload, 1) := k_46 zcL_law rfl rfl
theorem dL_law_2124 : decode cL_law 2124 = .ok (.aload_n 0, 1) := k_42 zcL_law rfl rfl
theorem dL_law_2125 : decode cL_law 2125 = .ok (.iload_n 3, 1) := k_29 zcL_law rfl rfl
theorem dL_law_2126 : decode cL_law 2126 = .ok (.iconst 4, 1) := k_7 zcL_law rfl rfl
theorem dL_law_2127 : decode cL_law 2127 = .ok (.iadd, 1) := k_96 zcL_law rfl rfl
theorem dL_law_2128 : decode cL_law 2128 = .ok (.iaload, 1) := k_46 zcL_law rfl rfl
theorem dL_law_2129 : decode cL_law 2129 = .ok (.invokevirtual 213, 3) := k_182 zcL_law rfl rfl rfl
theorem dL_law_2132 : decode cL_law 2132 = .ok (.pop, 1) := k_87 zcL_law rfl rfl
theorem dL_law_2133 : decode cL_law 2133 = .ok (.goto 82, 3) := k_167 zcL_law rfl rfl rfl
theorem dL_law_2136 : decode cL_law 2136 = .ok (.aload_n 1, 1) := k_43 zcL_law rfl rfl
theorem dL_law_2137 : decode cL_law 2137 = .ok (.aload_n 0, 1) := k_42 zcL_law rfl rfl
theorem dL_law_2138 : decode cL_law 2138 = .ok (.iload_n 3, 1) := k_29 zcL_law rfl rfl
theorem dL_law_2139 : decode cL_law 2139 = .ok (.iconst 1, 1) := k_4 zcL_law rfl rfl
theorem dL_law_2140 : decode cL_law 2140 = .ok (.iadd, 1) := k_96 zcL_law rfl rfl
theorem dL_law_2141 : decode cL_law 2141 = .ok (.iaload, 1) := k_46 zcL_law rfl rfl
theorem dL_law_2142 : decode cL_law 2142 = .ok (.aload_n 0, 1) := k_42 zcL_law rfl rfl
theorem dL_law_2143 : decode cL_law 2143 = .ok (.iload_n 3, 1) := k_29 zcL_law rfl rfl
theorem dL_law_2144 : decode cL_law 2144 = .ok (.iconst 2, 1) := k_5 zcL_law rfl rfl
theorem dL_law_2145 : decode cL_law 2145 = .ok (.iadd, 1) := k_96 zcL_law rfl rfl
theorem dL_law_2146 : decode cL_law 2146 = .ok (.iaload, 1) := k_46 zcL_law rfl rfl
theorem dL_law_2147 : decode cL_law 2147 = .ok (.invokevirtual 214, 3) := k_182 zcL_law rfl rfl rfl
theorem dL_law_2150 : decode cL_law 2150 = .ok (.pop, 1) := k_87 zcL_law rfl rfl
theorem dL_law_2151 : decode cL_law 2151 = .ok (.aload_n 2, 1) := k_44 zcL_law rfl rfl
theorem dL_law_2152 : decode cL_law 2152 = .ok (.aload_n 0, 1) := k_42 zcL_law rfl rfl
theorem dL_law_2153 : decode cL_law 2153 = .ok (.iload_n 3, 1) := k_29 zcL_law rfl rfl
theorem dL_law_2154 : decode cL_law 2154 = .ok (.iconst 1, 1) := k_4 zcL_law rfl rfl
theorem dL_law_2155 : decode cL_law 2155 = .ok (.iadd, 1) := k_96 zcL_law rfl rfl
theorem dL_law_2156 : decode cL_law 2156 = .ok (.iaload, 1) := k_46 zcL_law rfl rfl
theorem dL_law_2157 : decode cL_law 2157 = .ok (.aload_n 0, 1) := k_42 zcL_law rfl rfl
theorem dL_law_2158 : decode cL_law 2158 = .ok (.iload_n 3, 1) := k_29 zcL_law rfl rfl
theorem dL_law_2159 : decode cL_law 2159 = .ok (.iconst 2, 1) := k_5 zcL_law rfl rfl
theorem dL_law_2160 : decode cL_law 2160 = .ok (.iadd, 1) := k_96 zcL_law rfl rfl
theorem dL_law_2161 : decode cL_law 2161 = .ok (.iaload, 1) := k_46 zcL_law rfl rfl
theorem dL_law_2162 : decode cL_law 2162 = .ok (.invokevirtual 217, 3) := k_182 zcL_law rfl rfl rfl
theorem dL_law_2165 : decode cL_law 2165 = .ok (.pop, 1) := k_87 zcL_law rfl rfl
theorem dL_law_2166 : decode cL_law 2166 = .ok (.goto 49, 3) := k_167 zcL_law rfl rfl rfl
theorem dL_law_2169 : decode cL_law 2169 = .ok (.aload_n 1, 1) := k_43 zcL_law rfl rfl
theorem dL_law_2170 : decode cL_law 2170 = .ok (.aload_n 0, 1) := k_42 zcL_law rfl rfl
theorem dL_law_2171 : decode cL_law 2171 = .ok (.iload_n 3, 1) := k_29 zcL_law rfl rfl
theorem dL_law_2172 : decode cL_law 2172 = .ok (.iconst 1, 1) := k_4 zcL_law rfl rfl
theorem dL_law_2173 : decode cL_law 2173 = .ok (.iadd, 1) := k_96 zcL_law rfl rfl
theorem dL_law_2174 : decode cL_law 2174 = .ok (.iaload, 1) := k_46 zcL_law rfl rfl
theorem dL_law_2175 : decode cL_law 2175 = .ok (.invokevirtual 218, 3) := k_182 zcL_law rfl rfl rfl
theorem dL_law_2178 : decode cL_law 2178 = .ok (.pop, 1) := k_87 zcL_law rfl rfl
theorem dL_law_2179 : decode cL_law 2179 = .ok (.aload_n 2, 1) := k_44 zcL_law rfl rfl
theorem dL_law_2180 : decode cL_law 2180 = .ok (.aload_n 0, 1) := k_42 zcL_law rfl rfl
theorem dL_law_2181 : decode cL_law 2181 = .ok (.iload_n 3, 1) := k_29 zcL_law rfl rfl
theorem dL_law_2182 : decode cL_law 2182 = .ok (.iconst 1, 1) := k_4 zcL_law rfl rfl
theorem dL_law_2183 : decode cL_law 2183 = .ok (.iadd, 1) := k_96 zcL_law rfl rfl
theorem dL_law_2184 : decode cL_law 2184 = .ok (.iaload, 1) := k_46 zcL_law rfl rfl
theorem dL_law_2185 : decode cL_law 2185 = .ok (.invokevirtual 221, 3) := k_182 zcL_law rfl rfl rfl
theorem dL_law_2188 : decode cL_law 2188 = .ok (.pop, 1) := k_87 zcL_law rfl rfl
theorem dL_law_2189 : decode cL_law 2189 = .ok (.goto 26, 3) := k_167 zcL_law rfl rfl rfl
theorem dL_law_2192 : decode cL_law 2192 = .ok (.aload_n 1, 1) := k_43 zcL_law rfl rfl
theorem dL_law_2193 : decode cL_law 2193 = .ok (.aload_n 0, 1) := k_42 zcL_law rfl rfl
theorem dL_law_2194 : decode cL_law 2194 = .ok (.iload_n 3, 1) := k_29 zcL_law rfl rfl
theorem dL_law_2195 : decode cL_law 2195 = .ok (.iconst 1, 1) := k_4 zcL_law rfl rfl
theorem dL_law_2196 : decode cL_law 2196 = .ok (.iadd, 1) := k_96 zcL_law rfl rfl
theorem dL_law_2197 : decode cL_law 2197 = .ok (.iaload, 1) := k_46 zcL_law rfl rfl
theorem dL_law_2198 : decode cL_law 2198 = .ok (.invokevirtual 222, 3) := k_182 zcL_law rfl rfl rfl
theorem dL_law_2201 : decode cL_law 2201 = .ok (.pop, 1) := k_87 zcL_law rfl rfl
theorem dL_law_2202 : decode cL_law 2202 = .ok (.aload_n 2, 1) := k_44 zcL_law rfl rfl
theorem dL_law_2203 : decode cL_law 2203 = .ok (.aload_n 0, 1) := k_42 zcL_law rfl rfl
theorem dL_law_2204 : decode cL_law 2204 = .ok (.iload_n 3, 1) := k_29 zcL_law rfl rfl
theorem dL_law_2205 : decode cL_law 2205 = .ok (.iconst 1, 1) := k_4 zcL_law rfl rfl
theorem dL_law_2206 : decode cL_law 2206 = .ok (.iadd, 1) := k_96 zcL_law rfl rfl
theorem dL_law_2207 : decode cL_law 2207 = .ok (.iaload, 1) := k_46 zcL_law rfl rfl
theorem dL_law_2208 : decode cL_law 2208 = .ok (.invokevirtual 225, 3) := k_182 zcL_law rfl rfl rfl
theorem dL_law_2211 : decode cL_law 2211 = .ok (.pop, 1) := k_87 zcL_law rfl rfl
theorem dL_law_2212 : decode cL_law 2212 = .ok (.goto 3, 3) := k_167 zcL_law rfl rfl rfl
theorem dL_law_2215 : decode cL_law 2215 = .ok (.iinc 3 6, 3) := k_132 zcL_law rfl rfl rfl rfl
theorem dL_law_2218 : decode cL_law 2218 = .ok (.goto (-2200), 3) := k_167 zcL_law rfl rfl rfl
theorem dL_law_2221 : decode cL_law 2221 = .ok (.iconst 1, 1) := k_4 zcL_law rfl rfl
theorem dL_law_2222 : decode cL_law 2222 = .ok (.ireturn, 1) := k_172 zcL_law rfl rfl
